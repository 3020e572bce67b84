def yj_length : MethodName := ⟨"java/lang/String", "length", "()I"⟩
def yj_coder : MethodName := ⟨"java/lang/String", "coder", "()B"⟩
def yj_latin : MethodName := ⟨"java/lang/String", "isLatin1", "()Z"⟩
def yj_charAt : MethodName := ⟨"java/lang/String", "charAt", "(I)C"⟩
def yj_char1 : MethodName := ⟨"java/lang/StringLatin1", "charAt", "([BI)C"⟩
def yj_check : MethodName := ⟨"java/lang/String", "checkIndex", "(II)V"⟩
def yj_pre : MethodName := ⟨"jdk/internal/util/Preconditions", "checkIndex", "(IILjava/util/function/BiFunction;)I"⟩
abbrev qj_length : xa_MI := (yj_length, prog_11_method_54_code, 1, some .int, 0, 0)
abbrev qj_coder : xa_MI := (yj_coder, prog_11_method_152_code, 1, some .byte, 0, 0)
abbrev qj_latin : xa_MI := (yj_latin, prog_11_method_154_code, 1, some .boolean, 0, 0)
abbrev qj_charAt : xa_MI := (yj_charAt, prog_11_method_56_code, 2, some .char, 0, 0)
abbrev qj_char1 : xa_MI := (yj_char1, prog_12_method_2_code, 2, some .char, 0, 0)
abbrev qj_check : xa_MI := (yj_check, prog_11_method_155_code, 2, none, 0, 0)
abbrev qj_pre : xa_MI := (yj_pre, prog_15_method_11_code, 3, some .int, 0, 0)
theorem dj_length_0 : decode prog_11_method_54_code 0 = .ok (.aload_n 0, 1) := by decide +kernel
theorem dj_length_1 : decode prog_11_method_54_code 1 = .ok (.getfield 9, 3) := by decide +kernel
theorem dj_length_4 : decode prog_11_method_54_code 4 = .ok (.arraylength, 1) := by decide +kernel
theorem dj_length_5 : decode prog_11_method_54_code 5 = .ok (.aload_n 0, 1) := by decide +kernel
theorem dj_length_6 : decode prog_11_method_54_code 6 = .ok (.invokevirtual 335, 3) := by decide +kernel
theorem dj_length_9 : decode prog_11_method_54_code 9 = .ok (.ishr, 1) := by decide +kernel
theorem dj_length_10 : decode prog_11_method_54_code 10 = .ok (.ireturn, 1) := by decide +kernel
theorem dj_coder_0 : decode prog_11_method_152_code 0 = .ok (.getstatic 38, 3) := by decide +kernel
theorem dj_coder_3 : decode prog_11_method_152_code 3 = .ok (.ifCond .eq 10, 3) := by decide +kernel
theorem dj_coder_6 : decode prog_11_method_152_code 6 = .ok (.aload_n 0, 1) := by decide +kernel
theorem dj_coder_7 : decode prog_11_method_152_code 7 = .ok (.getfield 15, 3) := by decide +kernel
theorem dj_coder_10 : decode prog_11_method_152_code 10 = .ok (.goto 4, 3) := by decide +kernel
theorem dj_coder_13 : decode prog_11_method_152_code 13 = .ok (.iconst 1, 1) := by decide +kernel
theorem dj_coder_14 : decode prog_11_method_152_code 14 = .ok (.ireturn, 1) := by decide +kernel
theorem dj_latin_0 : decode prog_11_method_154_code 0 = .ok (.getstatic 38, 3) := by decide +kernel
theorem dj_latin_3 : decode prog_11_method_154_code 3 = .ok (.ifCond .eq 14, 3) := by decide +kernel
theorem dj_latin_6 : decode prog_11_method_154_code 6 = .ok (.aload_n 0, 1) := by decide +kernel
theorem dj_latin_7 : decode prog_11_method_154_code 7 = .ok (.getfield 15, 3) := by decide +kernel
theorem dj_latin_10 : decode prog_11_method_154_code 10 = .ok (.ifCond .ne 7, 3) := by decide +kernel
theorem dj_latin_13 : decode prog_11_method_154_code 13 = .ok (.iconst 1, 1) := by decide +kernel
theorem dj_latin_14 : decode prog_11_method_154_code 14 = .ok (.goto 4, 3) := by decide +kernel
theorem dj_latin_17 : decode prog_11_method_154_code 17 = .ok (.iconst 0, 1) := by decide +kernel
theorem dj_latin_18 : decode prog_11_method_154_code 18 = .ok (.ireturn, 1) := by decide +kernel
theorem dj_charAt_0 : decode prog_11_method_56_code 0 = .ok (.aload_n 0, 1) := by decide +kernel
theorem dj_charAt_1 : decode prog_11_method_56_code 1 = .ok (.invokevirtual 492, 3) := by decide +kernel
theorem dj_charAt_4 : decode prog_11_method_56_code 4 = .ok (.ifCond .eq 12, 3) := by decide +kernel
theorem dj_charAt_7 : decode prog_11_method_56_code 7 = .ok (.aload_n 0, 1) := by decide +kernel
theorem dj_charAt_8 : decode prog_11_method_56_code 8 = .ok (.getfield 9, 3) := by decide +kernel
theorem dj_charAt_11 : decode prog_11_method_56_code 11 = .ok (.iload_n 1, 1) := by decide +kernel
theorem dj_charAt_12 : decode prog_11_method_56_code 12 = .ok (.invokestatic 495, 3) := by decide +kernel
theorem dj_charAt_15 : decode prog_11_method_56_code 15 = .ok (.ireturn, 1) := by decide +kernel
theorem dj_charAt_16 : decode prog_11_method_56_code 16 = .ok (.aload_n 0, 1) := by decide +kernel
theorem dj_charAt_17 : decode prog_11_method_56_code 17 = .ok (.getfield 9, 3) := by decide +kernel
theorem dj_charAt_20 : decode prog_11_method_56_code 20 = .ok (.iload_n 1, 1) := by decide +kernel
theorem dj_charAt_21 : decode prog_11_method_56_code 21 = .ok (.invokestatic 498, 3) := by decide +kernel
theorem dj_charAt_24 : decode prog_11_method_56_code 24 = .ok (.ireturn, 1) := by decide +kernel
theorem dj_char1_0 : decode prog_12_method_2_code 0 = .ok (.iload_n 1, 1) := by decide +kernel
theorem dj_char1_1 : decode prog_12_method_2_code 1 = .ok (.aload_n 0, 1) := by decide +kernel
theorem dj_char1_2 : decode prog_12_method_2_code 2 = .ok (.arraylength, 1) := by decide +kernel
theorem dj_char1_3 : decode prog_12_method_2_code 3 = .ok (.invokestatic 9, 3) := by decide +kernel
theorem dj_char1_6 : decode prog_12_method_2_code 6 = .ok (.aload_n 0, 1) := by decide +kernel
theorem dj_char1_7 : decode prog_12_method_2_code 7 = .ok (.iload_n 1, 1) := by decide +kernel
theorem dj_char1_8 : decode prog_12_method_2_code 8 = .ok (.baload, 1) := by decide +kernel
theorem dj_char1_9 : decode prog_12_method_2_code 9 = .ok (.sipush 255, 3) := by decide +kernel
theorem dj_char1_12 : decode prog_12_method_2_code 12 = .ok (.iand, 1) := by decide +kernel
theorem dj_char1_13 : decode prog_12_method_2_code 13 = .ok (.i2c, 1) := by decide +kernel
theorem dj_char1_14 : decode prog_12_method_2_code 14 = .ok (.ireturn, 1) := by decide +kernel
theorem dj_check_0 : decode prog_11_method_155_code 0 = .ok (.iload_n 0, 1) := by decide +kernel
theorem dj_check_1 : decode prog_11_method_155_code 1 = .ok (.iload_n 1, 1) := by decide +kernel
theorem dj_check_2 : decode prog_11_method_155_code 2 = .ok (.getstatic 1053, 3) := by decide +kernel
theorem dj_check_5 : decode prog_11_method_155_code 5 = .ok (.invokestatic 1059, 3) := by decide +kernel
theorem dj_check_8 : decode prog_11_method_155_code 8 = .ok (.pop, 1) := by decide +kernel
theorem dj_check_9 : decode prog_11_method_155_code 9 = .ok (.return_, 1) := by decide +kernel
theorem dj_pre_0 : decode prog_15_method_11_code 0 = .ok (.iload_n 0, 1) := by decide +kernel
theorem dj_pre_1 : decode prog_15_method_11_code 1 = .ok (.ifCond .lt 8, 3) := by decide +kernel
theorem dj_pre_4 : decode prog_15_method_11_code 4 = .ok (.iload_n 0, 1) := by decide +kernel
theorem dj_pre_5 : decode prog_15_method_11_code 5 = .ok (.iload_n 1, 1) := by decide +kernel
theorem dj_pre_6 : decode prog_15_method_11_code 6 = .ok (.if_icmp .lt 10, 3) := by decide +kernel
theorem dj_pre_9 : decode prog_15_method_11_code 9 = .ok (.aload_n 2, 1) := by decide +kernel
theorem dj_pre_10 : decode prog_15_method_11_code 10 = .ok (.iload_n 0, 1) := by decide +kernel
theorem dj_pre_11 : decode prog_15_method_11_code 11 = .ok (.iload_n 1, 1) := by decide +kernel
theorem dj_pre_12 : decode prog_15_method_11_code 12 = .ok (.invokestatic 95, 3) := by decide +kernel
theorem dj_pre_15 : decode prog_15_method_11_code 15 = .ok (.athrow, 1) := by decide +kernel
theorem dj_pre_16 : decode prog_15_method_11_code 16 = .ok (.iload_n 0, 1) := by decide +kernel
theorem dj_pre_17 : decode prog_15_method_11_code 17 = .ok (.ireturn, 1) := by decide +kernel
set_option maxRecDepth 100000 in
theorem xj_f38 : xa_in (.fieldLink "java/lang/String" 38 "java/lang/String" "COMPACT_STRINGS" "Z") := xa_pl 263 rfl rfl
set_option maxRecDepth 100000 in
theorem xj_f15 : xa_in (.fieldLink "java/lang/String" 15 "java/lang/String" "coder" "B") := xa_pl 1031 rfl rfl
set_option maxRecDepth 100000 in
theorem xj_f9 : xa_in (.fieldLink "java/lang/String" 9 "java/lang/String" "value" "[B") := xa_pl 1030 rfl rfl
set_option maxRecDepth 100000 in
theorem xj_f1053 : xa_in (.fieldLink "java/lang/String" 1053 "jdk/internal/util/Preconditions" "SIOOBE_FORMATTER" "Ljava/util/function/BiFunction;") := xa_pl 279 rfl rfl
set_option maxRecDepth 100000 in
theorem xj_iS : xa_in (.initialized "java/lang/String") := xa_pl 53 rfl rfl
set_option maxRecDepth 100000 in
theorem xj_i1 : xa_in (.initialized "java/lang/StringLatin1") := xa_pl 54 rfl rfl
set_option maxRecDepth 100000 in
theorem xj_iP : xa_in (.initialized "jdk/internal/util/Preconditions") := xa_pl 55 rfl rfl
set_option maxRecDepth 100000 in
theorem xj_clength : xa_in (.code yj_length prog_11_method_54_code 1 (some .int)) := xa_pl 258 rfl rfl
set_option maxRecDepth 100000 in
theorem xj_ilength : xa_in (.instanceMethod yj_length) := xa_pl 256 rfl rfl
set_option maxRecDepth 100000 in
theorem xj_slength : xa_in (.selects "java/lang/String" yj_length yj_length) := xa_pl 257 rfl rfl
set_option maxRecDepth 100000 in
theorem xj_ccoder : xa_in (.code yj_coder prog_11_method_152_code 1 (some .byte)) := xa_pl 262 rfl rfl
set_option maxRecDepth 100000 in
theorem xj_icoder : xa_in (.instanceMethod yj_coder) := xa_pl 260 rfl rfl
set_option maxRecDepth 100000 in
theorem xj_scoder : xa_in (.selects "java/lang/String" yj_coder yj_coder) := xa_pl 261 rfl rfl
set_option maxRecDepth 100000 in
theorem xj_clatin : xa_in (.code yj_latin prog_11_method_154_code 1 (some .boolean)) := xa_pl 272 rfl rfl
set_option maxRecDepth 100000 in
theorem xj_ilatin : xa_in (.instanceMethod yj_latin) := xa_pl 270 rfl rfl
set_option maxRecDepth 100000 in
theorem xj_slatin : xa_in (.selects "java/lang/String" yj_latin yj_latin) := xa_pl 271 rfl rfl
set_option maxRecDepth 100000 in
theorem xj_ccharAt : xa_in (.code yj_charAt prog_11_method_56_code 2 (some .char)) := xa_pl 268 rfl rfl
set_option maxRecDepth 100000 in
theorem xj_icharAt : xa_in (.instanceMethod yj_charAt) := xa_pl 266 rfl rfl
set_option maxRecDepth 100000 in
theorem xj_scharAt : xa_in (.selects "java/lang/String" yj_charAt yj_charAt) := xa_pl 267 rfl rfl
set_option maxRecDepth 100000 in
theorem xj_cchar1 : xa_in (.code yj_char1 prog_12_method_2_code 2 (some .char)) := xa_pl 275 rfl rfl
set_option maxRecDepth 100000 in
theorem xj_tchar1 : xa_in (.static yj_char1) := xa_pl 274 rfl rfl
set_option maxRecDepth 100000 in
theorem xj_ccheck : xa_in (.code yj_check prog_11_method_155_code 2 (none)) := xa_pl 278 rfl rfl
set_option maxRecDepth 100000 in
theorem xj_tcheck : xa_in (.static yj_check) := xa_pl 277 rfl rfl
set_option maxRecDepth 100000 in
theorem xj_cpre : xa_in (.code yj_pre prog_15_method_11_code 3 (some .int)) := xa_pl 283 rfl rfl
set_option maxRecDepth 100000 in
theorem xj_tpre : xa_in (.static yj_pre) := xa_pl 282 rfl rfl
set_option maxRecDepth 100000 in
theorem xj_lcoder : xa_in (.methodLink "java/lang/String" 335 yj_coder) := xa_pl 259 rfl rfl
set_option maxRecDepth 100000 in
theorem xj_llatin : xa_in (.methodLink "java/lang/String" 492 yj_latin) := xa_pl 269 rfl rfl
set_option maxRecDepth 100000 in
theorem xj_lchar1 : xa_in (.methodLink "java/lang/String" 495 yj_char1) := xa_pl 273 rfl rfl
set_option maxRecDepth 100000 in
theorem xj_lcheck : xa_in (.methodLink "java/lang/StringLatin1" 9 yj_check) := xa_pl 276 rfl rfl
set_option maxRecDepth 100000 in
theorem xj_lpre : xa_in (.methodLink "java/lang/String" 1059 yj_pre) := xa_pl 281 rfl rfl
def xj_S (b0 : Nat) (H0 : Heap) (sa va : Nat) (s : State) : Prop := va_O "java/lang/String" sa (fun q => b0 ≤ q) s H0 ∧ va_OF "java/lang/String" "coder" "B" (.int 0) sa (fun q => b0 ≤ q) s H0 ∧ va_OF "java/lang/String" "value" "[B" (.ref va) sa (fun q => b0 ≤ q) s H0 ∧ va_T .byte va 78 (fun j => .int (nI (xa_tx.getD j 0))) (fun q => b0 ≤ q) s H0 ∧ va_Z "java/lang/String" "COMPACT_STRINGS" "Z" (.int 1) (fun q => b0 ≤ q) s H0 ∧ va_Zq "jdk/internal/util/Preconditions" "SIOOBE_FORMATTER" "Ljava/util/function/BiFunction;" (fun q => b0 ≤ q) s H0
theorem xj_Sm {b0 sa va : Nat} {H0 : Heap} {u U : State} (hvm : u.vm.Alike U.vm) (h : xj_S b0 H0 sa va u) : xj_S b0 H0 sa va U := by
  obtain ⟨h1, h2, h3, h4, h5, h6⟩ := h
  exact ⟨va_O.moved hvm h1, va_OF.moved hvm h2, va_OF.moved hvm h3, va_T.moved hvm h4, va_Z.moved hvm h5, va_Zq.moved hvm h6⟩
def xj_K (b0 : Nat) (H0 : Heap) (sa va : Nat) (U : State) : Prop := xj_S b0 H0 sa va U ∧ ∀ x : Nat, x < b0 → U.heap[x]? = H0[x]?
def xj_P (As : List Value) (b0 : Nat) (H0 : Heap) (sa va : Nat) : Array Value → State → Prop := fun v U => v = As.toArray ∧ xj_K b0 H0 sa va U
def xj_Q (v : Option Value) : Array Value → State → Outcome → State → Prop := fun _ st o t => o = .returned v ∧ t.heap = st.heap
section XaJdk
variable {p : Program} {l : Launch} {e : Env} {R : Room} {s : State} {m : MethodId} {args a : Array Value} {below : List Frame} {meth : Method} {c : Code} {H : Heap} {locs : List Loc} {cells slots : Nat} {Q : State → Prop}
variable {pc : Nat} {ls : Array Slot} {rest st0 : List Value} {b0 sa va : Nat} {H0 : Heap}
theorem xj_call {v : Option Value} (hr : va_Run p l e R s m args below meth c H locs cells slots 0 0 (F0 m pc ls st0) rest (xj_Q v a) (fun _ => False)) (kk : W p l e R s m args below meth c H locs cells slots Q (F0 m (pc + 3) ls (v.toList ++ rest))) : W p l e R s m args below meth c H locs cells slots Q (F0 m pc ls st0) := by
  intro T hT X
  obtain ⟨v', st₀, t, T', L, h0, X', hL, e1, e2, ⟨hv, hh⟩, stp⟩ := hr T hT X
  cases hv
  have hn : L = [] := List.eq_nil_iff_forall_not_mem.mpr (fun q hq => hL q hq)
  subst hn
  rw [List.append_nil] at X'
  obtain ⟨t2, a1, b1⟩ := kk T' (by rw [e1, hh, h0]) X'
  exact ⟨t2, stp t2 a1, b1⟩
theorem xj_blind {As : List Value} : FrameBlind (xj_P As b0 H0 sa va) := fun _ U g mk x => ⟨x.1, xj_Sm (Vm.Alike.refl _) x.2.1, x.2.2⟩
theorem xj_pre' {As : List Value} (hS : xj_S b0 H0 sa va s) (hH : ∀ x : Nat, x < b0 → H[x]? = H0[x]?) : ∀ U : State, U.heap = H → s.WarmedH U.vm → xj_P As b0 H0 sa va As.toArray U := fun U hU hW => ⟨rfl, xj_Sm hW.alike hS, by rw [hU]; exact hH⟩
theorem xj_good {q z : xa_MI} (hc : xa_in (.code z.1 z.2.1 z.2.2.1 z.2.2.2.1)) : GoodIn (xa_ws q) (xa_ws z) := by
  intro w hw
  rcases List.mem_cons.mp hw with rfl | h
  · exact ⟨xa_word hc, Or.inl rfl⟩
  · exact ⟨List.mem_cons_of_mem _ h, good_of_word (List.mem_filter.mp h).2⟩
end XaJdk
set_option maxHeartbeats 4000000 in
set_option maxRecDepth 100000 in
theorem cj_coder (l : Launch) (b0 sa va : Nat) (H0 : Heap) : Met l yj_coder (xa_ws qj_coder) ({ frames := 0, cells := 0, slots := 0, locals := 0 }) (xj_P [.ref sa] b0 H0 sa va) (xj_Q (some (.int 0))) 0 0 (fun _ => False) := by
  refine Met.ofW (cc := prog_11_method_152_code) (maxL := 1) (ret := some .byte) (by decide) rfl ?_
  intro p e s m args below meth c s₁ B hml hv
  obtain ⟨rfl, hS, hU⟩ := hv
  have hx := B.exec
  have hb := B.bytes
  have hr := B.returns
  have hts := atoms_spec (ws := xa_ws qj_coder) B.pre
  have hown : s.vm.findClass "java/lang/String" = some m.cls := findClass_of_methodNamed B.named
  have hlocks := B.notSynchronized
  obtain ⟨v1, v2, v3, v4, v5, v6⟩ := id hS
  have hkp : ∀ x : Nat, x < H0.size → ¬ b0 ≤ x → s.heap[x]? = H0[x]? := fun x _ h => hU x (by omega)
  have v5 := v5.kept hkp
  have v2 := v2.kept hkp
  have hS0 : va_S (fun q => b0 ≤ q) s.heap s.heap [] := va_S.rf
  have hl := lv_entry ([.ref sa]) (n := 1) (Nat.le_of_ble_eq_true rfl)
  rw [lg_entry_eq]
  generalize (lg_sl ([.ref sa]) ++ List.replicate (1 - (lg_sl ([.ref sa])).length) Slot.unset).toArray = ls at hl ⊢
  have hl : lv_has ls 1 [(0, .ref sa)] := hl
  refine va_gets hx hb v5 hS0 hown (hts _ (xa_word xj_f38)) (fun _ h => h) dj_coder_0 ?_
  refine lv_if_eq (tgt := 13) hx hb dj_coder_3 (by decide) (fun c => absurd c (by decide)) (fun _ => ?_)
  refine lv_aload_n hx hb dj_coder_6 rfl (lv_at hl 0 rfl) ?_
  refine vk_getf hx hb v2 hS0 hown (hts _ (xa_word xj_f15)) (fun _ h => h) dj_coder_7 ?_
  refine lv_goto (tgt := 14) hx hb dj_coder_10 (by decide) ?_
  exact W.zret (ty := .byte) hx hb hr rfl (fun t ht hW => ⟨rfl, ht⟩) (fun _ h => by cases h) dj_coder_14
set_option maxHeartbeats 4000000 in
set_option maxRecDepth 100000 in
theorem cj_latin (l : Launch) (b0 sa va : Nat) (H0 : Heap) : Met l yj_latin (xa_ws qj_latin) ({ frames := 0, cells := 0, slots := 0, locals := 0 }) (xj_P [.ref sa] b0 H0 sa va) (xj_Q (some (.int 1))) 0 0 (fun _ => False) := by
  refine Met.ofW (cc := prog_11_method_154_code) (maxL := 1) (ret := some .boolean) (by decide) rfl ?_
  intro p e s m args below meth c s₁ B hml hv
  obtain ⟨rfl, hS, hU⟩ := hv
  have hx := B.exec
  have hb := B.bytes
  have hr := B.returns
  have hts := atoms_spec (ws := xa_ws qj_latin) B.pre
  have hown : s.vm.findClass "java/lang/String" = some m.cls := findClass_of_methodNamed B.named
  have hlocks := B.notSynchronized
  obtain ⟨v1, v2, v3, v4, v5, v6⟩ := id hS
  have hkp : ∀ x : Nat, x < H0.size → ¬ b0 ≤ x → s.heap[x]? = H0[x]? := fun x _ h => hU x (by omega)
  have v5 := v5.kept hkp
  have v2 := v2.kept hkp
  have hS0 : va_S (fun q => b0 ≤ q) s.heap s.heap [] := va_S.rf
  have hl := lv_entry ([.ref sa]) (n := 1) (Nat.le_of_ble_eq_true rfl)
  rw [lg_entry_eq]
  generalize (lg_sl ([.ref sa]) ++ List.replicate (1 - (lg_sl ([.ref sa])).length) Slot.unset).toArray = ls at hl ⊢
  have hl : lv_has ls 1 [(0, .ref sa)] := hl
  refine va_gets hx hb v5 hS0 hown (hts _ (xa_word xj_f38)) (fun _ h => h) dj_latin_0 ?_
  refine lv_if_eq (tgt := 17) hx hb dj_latin_3 (by decide) (fun c => absurd c (by decide)) (fun _ => ?_)
  refine lv_aload_n hx hb dj_latin_6 rfl (lv_at hl 0 rfl) ?_
  refine vk_getf hx hb v2 hS0 hown (hts _ (xa_word xj_f15)) (fun _ h => h) dj_latin_7 ?_
  refine lv_if_ne (tgt := 17) hx hb dj_latin_10 (by decide) (fun c => absurd rfl c) (fun _ => ?_)
  refine lv_iconst (v := 1) hx hb dj_latin_13 (by decide) ?_
  refine lv_goto (tgt := 18) hx hb dj_latin_14 (by decide) ?_
  exact W.zret (ty := .boolean) hx hb hr rfl (fun t ht hW => ⟨rfl, ht⟩) (fun _ h => by cases h) dj_latin_18
set_option maxHeartbeats 4000000 in
set_option maxRecDepth 100000 in
theorem cj_length (l : Launch) (b0 sa va : Nat) (H0 : Heap) : Met l yj_length (xa_ws qj_length) ({ frames := 1, cells := 0, slots := 0, locals := 40 }) (xj_P [.ref sa] b0 H0 sa va) (xj_Q (some (.int (nI 78)))) 0 0 (fun _ => False) := by
  refine Met.ofW (cc := prog_11_method_54_code) (maxL := 1) (ret := some .int) (by decide) rfl ?_
  intro p e s m args below meth c s₁ B hml hv
  obtain ⟨rfl, hS, hU⟩ := hv
  have hx := B.exec
  have hb := B.bytes
  have hr := B.returns
  have hts := atoms_spec (ws := xa_ws qj_length) B.pre
  have hown : s.vm.findClass "java/lang/String" = some m.cls := findClass_of_methodNamed B.named
  have hlocks := B.notSynchronized
  obtain ⟨v1, v2, v3, v4, v5, v6⟩ := id hS
  have hkp : ∀ x : Nat, x < H0.size → ¬ b0 ≤ x → s.heap[x]? = H0[x]? := fun x _ h => hU x (by omega)
  have v1 := v1.kept hkp
  have v3 := v3.kept hkp
  have v4 := v4.kept hkp
  have hS0 : va_S (fun q => b0 ≤ q) s.heap s.heap [] := va_S.rf
  have hl := lv_entry ([.ref sa]) (n := 1) (Nat.le_of_ble_eq_true rfl)
  rw [lg_entry_eq]
  generalize (lg_sl ([.ref sa]) ++ List.replicate (1 - (lg_sl ([.ref sa])).length) Slot.unset).toArray = ls at hl ⊢
  have hl : lv_has ls 1 [(0, .ref sa)] := hl
  refine lv_aload_n hx hb dj_length_0 rfl (lv_at hl 0 rfl) ?_
  refine vk_getf hx hb v3 hS0 hown (hts _ (xa_word xj_f9)) (fun _ h => h) dj_length_1 ?_
  refine va_tlen hx hb v4 hS0 (v := nI 78) rfl dj_length_4 ?_
  refine lv_aload_n hx hb dj_length_5 rfl (lv_at hl 0 rfl) ?_
  have cw := callB_of (R := ({ frames := 1, cells := 0, slots := 0, locals := 40 } : Room)) (own := "java/lang/String") (index := 335) (ws' := lw_tbl.filter goodWord) 0 hts (xj_good (z := qj_coder) xj_ccoder) rfl (rm := { frames := 0, cells := 0, slots := 0, locals := 0 }) rfl rfl (hts _ (xa_word xj_iS)) (hts _ (xa_word xj_lcoder)) (by decide +kernel) ⟨by decide, by decide⟩
  obtain ⟨cellB, k1, k2, k3, -⟩ := v1
  refine xj_call (va_runV (C := "java/lang/String") (As := []) (rest := [.int (nI 78)]) ⟨hx, hb, hml, hown, hts⟩ (cj_coder l b0 sa va H0) ⟨cw, hts _ (xa_word xj_icoder), hts _ (xa_word xj_scoder)⟩ ⟨xj_blind, ⟨cellB, k1, k2, k3⟩, xj_pre' hS hU⟩ rfl rfl hl.1 rfl (lv_room (Nat.le_of_ble_eq_true rfl)) dj_length_6 ⟨by decide, by decide⟩) ?_
  refine lv_ishr hx hb dj_length_9 ?_
  exact W.iret (v := nI 78) hx hb hr (fun t ht hW => ⟨rfl, ht⟩) (fun _ h => by cases h) dj_length_10
set_option maxHeartbeats 4000000 in
set_option maxRecDepth 100000 in
theorem cj_pre (l : Launch) (b0 sa va : Nat) (H0 : Heap) (j : Int32) (f : Value) (hf : f = .null ∨ ∃ t : Nat, f = .ref t) (hj : vp_in j 78) : Met l yj_pre (xa_ws qj_pre) ({ frames := 0, cells := 0, slots := 0, locals := 0 }) (xj_P [.int j, .int (nI 78), f] b0 H0 sa va) (xj_Q (some (.int j))) 0 0 (fun _ => False) := by
  refine Met.ofW (cc := prog_15_method_11_code) (maxL := 3) (ret := some .int) (by decide) rfl ?_
  intro p e s m args below meth c s₁ B hml hv
  obtain ⟨rfl, hS, hU⟩ := hv
  have hx := B.exec
  have hb := B.bytes
  have hr := B.returns
  have hlocks := B.notSynchronized
  obtain ⟨k, hk, rfl⟩ := vp_in_of hj (by decide)
  have hc1 : f.category = 1 := by rcases hf with rfl | ⟨t, rfl⟩ <;> rfl
  have hl := lv_entry ([.int (nI k), .int (nI 78), f]) (n := 3) (by rcases hf with rfl | ⟨t, rfl⟩ <;> exact Nat.le_of_ble_eq_true rfl)
  rw [lg_entry_eq]
  generalize (lg_sl ([.int (nI k), .int (nI 78), f]) ++ List.replicate (3 - (lg_sl ([.int (nI k), .int (nI 78), f])).length) Slot.unset).toArray = ls at hl ⊢
  have hl : lv_has ls 3 [(0, .int (nI k)), (1, .int (nI 78)), (2, f)] := hl
  refine lv_iload_n hx hb dj_pre_0 rfl (lv_at hl 0 rfl) ?_
  refine lv_if_lt (tgt := 9) hx hb dj_pre_1 (by decide) (fun c => absurd c (nI_pos (by omega))) (fun _ => ?_)
  refine lv_iload_n hx hb dj_pre_4 rfl (lv_at hl 0 rfl) ?_
  refine lv_iload_n hx hb dj_pre_5 rfl (lv_at hl 1 rfl) ?_
  refine lv_icmp_lt (tgt := 16) hx hb dj_pre_6 (by decide) (fun _ => ?_) (fun c => absurd (nI_lt hk (by decide)) c)
  refine lv_iload_n hx hb dj_pre_16 rfl (lv_at hl 0 rfl) ?_
  exact W.iret (v := nI k) hx hb hr (fun t ht hW => ⟨rfl, ht⟩) (fun _ h => by cases h) dj_pre_17
set_option maxHeartbeats 4000000 in
set_option maxRecDepth 100000 in
theorem cj_check (l : Launch) (b0 sa va : Nat) (H0 : Heap) (j : Int32) (hj : vp_in j 78) : Met l yj_check (xa_ws qj_check) ({ frames := 1, cells := 0, slots := 0, locals := 40 }) (xj_P [.int j, .int (nI 78)] b0 H0 sa va) (xj_Q none) 0 0 (fun _ => False) := by
  refine Met.ofW (cc := prog_11_method_155_code) (maxL := 2) (ret := none) (by decide) rfl ?_
  intro p e s m args below meth c s₁ B hml hv
  obtain ⟨rfl, hS, hU⟩ := hv
  have hx := B.exec
  have hb := B.bytes
  have hr := B.returns
  have hts := atoms_spec (ws := xa_ws qj_check) B.pre
  have hown : s.vm.findClass "java/lang/String" = some m.cls := findClass_of_methodNamed B.named
  have hlocks := B.notSynchronized
  obtain ⟨v1, v2, v3, v4, v5, v6⟩ := id hS
  have hkp : ∀ x : Nat, x < H0.size → ¬ b0 ≤ x → s.heap[x]? = H0[x]? := fun x _ h => hU x (by omega)
  have v6 := v6.kept hkp
  have hS0 : va_S (fun q => b0 ≤ q) s.heap s.heap [] := va_S.rf
  have hl := lv_entry ([.int j, .int (nI 78)]) (n := 2) (Nat.le_of_ble_eq_true rfl)
  rw [lg_entry_eq]
  generalize (lg_sl ([.int j, .int (nI 78)]) ++ List.replicate (2 - (lg_sl ([.int j, .int (nI 78)])).length) Slot.unset).toArray = ls at hl ⊢
  have hl : lv_has ls 2 [(0, .int j), (1, .int (nI 78))] := hl
  have cw := callB_of (R := ({ frames := 1, cells := 0, slots := 0, locals := 40 } : Room)) (own := "java/lang/String") (index := 1059) (ws' := lw_tbl.filter goodWord) 3 hts (xj_good (z := qj_pre) xj_cpre) rfl (rm := { frames := 0, cells := 0, slots := 0, locals := 0 }) rfl rfl (hts _ (xa_word xj_iP)) (hts _ (xa_word xj_lpre)) (by decide +kernel) ⟨by decide, by decide⟩
  have go : ∀ f : Value, (f = .null ∨ ∃ t : Nat, f = .ref t) → W p l e (headSpec (xa_ws qj_check) { frames := 1, cells := 0, slots := 0, locals := 40 }).room s m [Value.int j, Value.int (nI 78)].toArray below meth c s.heap [] 0 0 (MQ below (xj_Q none) [Value.int j, Value.int (nI 78)].toArray s 0 0 (fun _ => False)) (F0 m 5 ls [f, .int (nI 78), .int j]) := by
    intro f hf
    refine xj_call (va_runS (As := [.int j, .int (nI 78), f]) (rest := []) ⟨hx, hb, hml, hown, hts⟩ (cj_pre l b0 sa va H0 j f hf hj) ⟨cw, hts _ (xa_word xj_tpre)⟩ ⟨xj_blind, xj_pre' hS hU⟩ rfl rfl hl.1 rfl (lv_room (Nat.le_of_ble_eq_true rfl)) dj_check_5 ⟨by decide, by decide⟩) ?_
    refine lv_pop hx hb dj_check_8 rfl ?_
    exact W.vret hx hb hr (fun t ht hW => ⟨rfl, ht⟩) (fun _ h => by cases h) dj_check_9
  refine lv_iload_n hx hb dj_check_0 rfl (lv_at hl 0 rfl) ?_
  refine lv_iload_n hx hb dj_check_1 rfl (lv_at hl 1 rfl) ?_
  rcases v6 with v6 | ⟨t, v6⟩
  · exact va_gets hx hb v6 hS0 hown (hts _ (xa_word xj_f1053)) (fun _ h => h) dj_check_2 (go _ (Or.inl rfl))
  · exact va_gets hx hb v6 hS0 hown (hts _ (xa_word xj_f1053)) (fun _ h => h) dj_check_2 (go _ (Or.inr ⟨t, rfl⟩))
theorem xj_byte : ∀ i, i < 78 → ((nI (xa_tx.getD i 0) &&& 255).toUInt32 % 65536).toInt32 = nI (xa_tx.getD i 0) := by decide +kernel
theorem xj_char : ∀ i, i < 78 → narrow .char (.int (nI (xa_tx.getD i 0))) = .int (nI (xa_tx.getD i 0)) := by decide +kernel
set_option maxHeartbeats 4000000 in
set_option maxRecDepth 100000 in
theorem cj_char1 (l : Launch) (b0 sa va : Nat) (H0 : Heap) (k : Nat) (hk : k < 78) : Met l yj_char1 (xa_ws qj_char1) ({ frames := 2, cells := 0, slots := 0, locals := 80 }) (xj_P [.ref va, .int (nI k)] b0 H0 sa va) (xj_Q (some (.int (nI (xa_tx.getD k 0))))) 0 0 (fun _ => False) := by
  refine Met.ofW (cc := prog_12_method_2_code) (maxL := 2) (ret := some .char) (by decide) rfl ?_
  intro p e s m args below meth c s₁ B hml hv
  obtain ⟨rfl, hS, hU⟩ := hv
  have hx := B.exec
  have hb := B.bytes
  have hr := B.returns
  have hts := atoms_spec (ws := xa_ws qj_char1) B.pre
  have hown : s.vm.findClass "java/lang/StringLatin1" = some m.cls := findClass_of_methodNamed B.named
  have hlocks := B.notSynchronized
  have hkp : ∀ x : Nat, x < H0.size → ¬ b0 ≤ x → s.heap[x]? = H0[x]? := fun x _ h => hU x (by omega)
  obtain ⟨v1, v2, v3, v4, v5, v6⟩ := id hS
  have v4 := v4.kept hkp
  have hS0 : va_S (fun q => b0 ≤ q) s.heap s.heap [] := va_S.rf
  have hj : vp_in (nI k) 78 := vp_in_nI hk (by decide)
  have hl := lv_entry ([.ref va, .int (nI k)]) (n := 2) (Nat.le_of_ble_eq_true rfl)
  rw [lg_entry_eq]
  generalize (lg_sl ([.ref va, .int (nI k)]) ++ List.replicate (2 - (lg_sl ([.ref va, .int (nI k)])).length) Slot.unset).toArray = ls at hl ⊢
  have hl : lv_has ls 2 [(0, .ref va), (1, .int (nI k))] := hl
  have cw := callB_of (R := ({ frames := 2, cells := 0, slots := 0, locals := 80 } : Room)) (own := "java/lang/StringLatin1") (index := 9) (ws' := lw_tbl.filter goodWord) 2 hts (xj_good (z := qj_check) xj_ccheck) rfl (rm := { frames := 1, cells := 0, slots := 0, locals := 40 }) rfl rfl (hts _ (xa_word xj_iS)) (hts _ (xa_word xj_lcheck)) (by decide +kernel) ⟨by decide, by decide⟩
  refine lv_iload_n hx hb dj_char1_0 rfl (lv_at hl 1 rfl) ?_
  refine lv_aload_n hx hb dj_char1_1 rfl (lv_at hl 0 rfl) ?_
  refine va_tlen hx hb v4 hS0 (v := nI 78) rfl dj_char1_2 ?_
  refine xj_call (va_runS (As := [.int (nI k), .int (nI 78)]) (rest := []) ⟨hx, hb, hml, hown, hts⟩ (cj_check l b0 sa va H0 (nI k) hj) ⟨cw, hts _ (xa_word xj_tcheck)⟩ ⟨xj_blind, xj_pre' hS hU⟩ rfl rfl hl.1 rfl (lv_room (Nat.le_of_ble_eq_true rfl)) dj_char1_3 ⟨by decide, by decide⟩) ?_
  refine lv_aload_n hx hb dj_char1_6 rfl (lv_at hl 0 rfl) ?_
  refine lv_iload_n hx hb dj_char1_7 rfl (lv_at hl 1 rfl) ?_
  refine va_tb hx hb v4 hS0 hj (v := .int (nI (xa_tx.getD k 0))) (by rw [nI_clamp (by omega)]) dj_char1_8 ?_
  refine lv_sipush (v := 255) hx hb dj_char1_9 (by decide) ?_
  refine lv_iand hx hb dj_char1_12 ?_
  refine lv_i2c (v := nI (xa_tx.getD k 0)) hx hb dj_char1_13 (xj_byte k hk) ?_
  exact W.zret (ty := .char) hx hb hr (xj_char k hk) (fun t ht hW => ⟨rfl, ht⟩) (fun _ h => by cases h) dj_char1_14
set_option maxHeartbeats 4000000 in
set_option maxRecDepth 100000 in
theorem cj_charAt (l : Launch) (b0 sa va : Nat) (H0 : Heap) (k : Nat) (hk : k < 78) : Met l yj_charAt (xa_ws qj_charAt) ({ frames := 3, cells := 0, slots := 0, locals := 120 }) (xj_P [.ref sa, .int (nI k)] b0 H0 sa va) (xj_Q (some (.int (nI (xa_tx.getD k 0))))) 0 0 (fun _ => False) := by
  refine Met.ofW (cc := prog_11_method_56_code) (maxL := 2) (ret := some .char) (by decide) rfl ?_
  intro p e s m args below meth c s₁ B hml hv
  obtain ⟨rfl, hS, hU⟩ := hv
  have hx := B.exec
  have hb := B.bytes
  have hr := B.returns
  have hts := atoms_spec (ws := xa_ws qj_charAt) B.pre
  have hown : s.vm.findClass "java/lang/String" = some m.cls := findClass_of_methodNamed B.named
  have hlocks := B.notSynchronized
  have hkp : ∀ x : Nat, x < H0.size → ¬ b0 ≤ x → s.heap[x]? = H0[x]? := fun x _ h => hU x (by omega)
  obtain ⟨v1, v2, v3, v4, v5, v6⟩ := id hS
  have v3 := v3.kept hkp
  have v1 := v1.kept hkp
  have hS0 : va_S (fun q => b0 ≤ q) s.heap s.heap [] := va_S.rf
  have hl := lv_entry ([.ref sa, .int (nI k)]) (n := 2) (Nat.le_of_ble_eq_true rfl)
  rw [lg_entry_eq]
  generalize (lg_sl ([.ref sa, .int (nI k)]) ++ List.replicate (2 - (lg_sl ([.ref sa, .int (nI k)])).length) Slot.unset).toArray = ls at hl ⊢
  have hl : lv_has ls 2 [(0, .ref sa), (1, .int (nI k))] := hl
  have cw := callB_of (R := ({ frames := 3, cells := 0, slots := 0, locals := 120 } : Room)) (own := "java/lang/String") (index := 492) (ws' := lw_tbl.filter goodWord) 0 hts (xj_good (z := qj_latin) xj_clatin) rfl (rm := { frames := 0, cells := 0, slots := 0, locals := 0 }) rfl rfl (hts _ (xa_word xj_iS)) (hts _ (xa_word xj_llatin)) (by decide +kernel) ⟨by decide, by decide⟩
  have cw2 := callB_of (R := ({ frames := 3, cells := 0, slots := 0, locals := 120 } : Room)) (own := "java/lang/String") (index := 495) (ws' := lw_tbl.filter goodWord) 2 hts (xj_good (z := qj_char1) xj_cchar1) rfl (rm := { frames := 2, cells := 0, slots := 0, locals := 80 }) rfl rfl (hts _ (xa_word xj_i1)) (hts _ (xa_word xj_lchar1)) (by decide +kernel) ⟨by decide, by decide⟩
  obtain ⟨cellB, k1, k2, k3, -⟩ := v1
  refine lv_aload_n hx hb dj_charAt_0 rfl (lv_at hl 0 rfl) ?_
  refine xj_call (va_runV (C := "java/lang/String") (As := []) (rest := []) ⟨hx, hb, hml, hown, hts⟩ (cj_latin l b0 sa va H0) ⟨cw, hts _ (xa_word xj_ilatin), hts _ (xa_word xj_slatin)⟩ ⟨xj_blind, ⟨cellB, k1, k2, k3⟩, xj_pre' hS hU⟩ rfl rfl hl.1 rfl (lv_room (Nat.le_of_ble_eq_true rfl)) dj_charAt_1 ⟨by decide, by decide⟩) ?_
  refine lv_if_eq (tgt := 16) hx hb dj_charAt_4 (by decide) (fun c => absurd c (by decide)) (fun _ => ?_)
  refine lv_aload_n hx hb dj_charAt_7 rfl (lv_at hl 0 rfl) ?_
  refine vk_getf hx hb v3 hS0 hown (hts _ (xa_word xj_f9)) (fun _ h => h) dj_charAt_8 ?_
  refine lv_iload_n hx hb dj_charAt_11 rfl (lv_at hl 1 rfl) ?_
  refine xj_call (va_runS (As := [.ref va, .int (nI k)]) (rest := []) ⟨hx, hb, hml, hown, hts⟩ (cj_char1 l b0 sa va H0 k hk) ⟨cw2, hts _ (xa_word xj_tchar1)⟩ ⟨xj_blind, xj_pre' hS hU⟩ rfl rfl hl.1 rfl (lv_room (Nat.le_of_ble_eq_true rfl)) dj_charAt_12 ⟨by decide, by decide⟩) ?_
  exact W.zret (ty := .char) hx hb hr (xj_char k hk) (fun t ht hW => ⟨rfl, ht⟩) (fun _ h => by cases h) dj_charAt_15
