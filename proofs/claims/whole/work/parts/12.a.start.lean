-- ===== end of PART A; then your names; then what follows =====
/-! THE CLAIM OUT OF ONE WALK OF THE LAW'S BODY. Your part is whole_start (and what it stands on); all else here is the same for every law, but numbers. -/
def R_law : String := "TownAirLaw"
def lw_P (b : Addr) (xs : List Int32) (args : Array Value) (s : State) : Prop := args = #[.ref b] ∧ s.IntsAt b xs ∧ xs.length ≤ 2560 ∧ (Jvm.Cond.and given_1 narrow_1).before args s = true
def lw_Q (_ : Array Value) (s : State) (o : Outcome) (t : State) : Prop := o = .returned (some (.int 1)) ∧ Framed s o t [] 600000 7302250
def lw_Z (below : List Frame) (a : Array Value) (s : State) : State → Prop := fun t => ∃ o, t.status = .running ∧ Ended t below o ∧ lw_Q a s o t
/-- the law's own end, with 1 on the stack, nothing written that was there before, its room as the claim has it -/
theorem lw_ret {p : Program} {l : Launch} {e : Env} {s : State} {m : MethodId} {below : List Frame} {meth : Method} {c : Code} {b : Nat} (hx : p.tables.exec = Jvm.exec) (hb : c.code = code) (hr : meth.sig.returnType = ret) (hlocks : meth.locks = false) {pc : Nat} {H : Heap} {ls : Array Slot} (hdg : decode code pc = .ok (.ireturn, 1)) : W p l e room_1 s m #[Value.ref b] below meth c H [] 600000 7302250 (lw_Z below #[Value.ref b] s) (F0 m pc ls [.int 1]) := by
  intro T hT X
  obtain ⟨fs, hret, hrun, hended, hW, hframe⟩ := X.leave (v := some (.int 1)) (hlocks := hlocks) (fun h => by rw [hr] at h; cases h)
  have hmeth' : T.vm.method? m = some meth := X.method'
  refine ⟨T.setFrames fs, ?_, .returned (some (.int 1)), hrun, hended, rfl, ⟨_, rfl⟩, hW, hframe⟩
  jvm_step X.here [X.here.top, hx, hb, hdg, hmeth', hr, ret, narrow_b1]
  (try refine ⟨rfl, ?_⟩); (try refine ⟨rfl, ?_⟩)
  first | (intro acts; rw [hret _ acts rfl rfl rfl]) | rw [hret _ _ rfl rfl rfl]
  exact Steps.refl _
/-- what holds at the law's entry: the machine, the code, the tables' words (any of lw_tbl by 'hts w (by decide +kernel)'), the script of L ints xs at the cell b, what the Statement gives of the start (any of its parts by flat_of_before) -/
def lw_At (p : Program) (s : State) (m : MethodId) (meth : Method) (c : Code) (b L : Nat) (xs : Nat → Int32) : Prop :=
  p.tables.exec = Jvm.exec ∧ c.code = code ∧ meth.sig.returnType = ret ∧ c.maxLocals = 4 ∧ s.vm.findClass R_law = some m.cls ∧ (∀ w ∈ lw_tbl, w.before #[Value.ref b] s = true) ∧ va_X b L xs s s.heap ∧ b < s.heap.size ∧ meth.locks = false ∧ (Jvm.Cond.and given_1 narrow_1).before #[Value.ref b] s = true
def xl_A (s : State) : Nat → Prop := fun q => s.heap.size ≤ q
theorem xl_b {p : Program} {s : State} {m : MethodId} {meth : Method} {c : Code} {b L : Nat} {xs : Nat → Int32} (C0 : lw_At p s m meth c b L xs) {w : Cond} (h : xa_in w) : w.before #[Value.ref b] s = true := C0.2.2.2.2.2.1 w h.1
theorem xl_cls {p : Program} {s : State} {m : MethodId} {meth : Method} {c : Code} {b L : Nat} {xs : Nat → Int32} (C0 : lw_At p s m meth c b L xs) : ∃ D : va_G, ∀ (ci : Nat) (q : vw_C), xa_cl[ci]? = some q → u_Kn s q.1 q.2.1 q.2.2 (D.1 ci) (D.2 ci) := by
  have h0 : ∀ ci : Nat, ∃ d : ClassId × (Nat → Nat), ∀ q : vw_C, xa_cl[ci]? = some q → u_Kn s q.1 q.2.1 q.2.2 d.1 d.2 := by
    intro ci
    cases hc : xa_cl[ci]? with
    | none => exact ⟨(0, fun _ => 0), fun q h => by cases h⟩
    | some q =>
      obtain ⟨C, T, N⟩ := q
      obtain ⟨o1, o2, o3, o4, o5, o6, o7⟩ := xa_cls_ok hc
      obtain ⟨cC, iS, hk⟩ := u_known (ws := lw_tbl) (args := #[Value.ref b]) (s := s) C0.2.2.2.2.2.1 (fun w hw => (o1 w hw).1) (xl_b C0 o6)
      exact ⟨(cC, iS), fun q h => by cases h; exact hk⟩
  obtain ⟨ad, had⟩ := Classical.axiomOfChoice h0
  exact ⟨(fun ci => (ad ci).1, fun ci => (ad ci).2), fun ci q h => had ci q h⟩
theorem xl_arr {s : State} {cA : ClassId} {k : Class} {comp : ClassId} {ty : FieldType} (h2 : s.vm.classes[cA]? = some k) (h3 : k.kind = .array comp ty) : ArrOfT s cA ty := fun _ _ => ⟨fun k h => (by cases h), k, h2, comp, h3⟩
set_option maxRecDepth 100000 in
theorem xl_ao1 : Cond.arrayOver (.object RX2) ∈ lw_tbl := by decide +kernel
set_option maxRecDepth 100000 in
theorem xl_ao2 : Cond.arrayOver (.array .int) ∈ lw_tbl := by decide +kernel
theorem xl_tys {p : Program} {s : State} {m : MethodId} {meth : Method} {c : Code} {b L : Nat} {xs : Nat → Int32} (C0 : lw_At p s m meth c b L xs) : ∃ cA : Nat → ClassId, ∀ (k : Nat) (q : ClassId × FieldType), (xa_tys cA)[k]? = some q → ArrOfT s q.1 q.2 ∧ va_RA s q.1 q.2 := by
  obtain ⟨c0, k0, p0, a1, a2, a3⟩ := Cond.arrayClass_spec (args := #[Value.ref b]) (first := s) (o := none) (s := s) (idx := []) (xl_b C0 xa_ac_int)
  obtain ⟨c1, k1, p1, b1, b2, b3⟩ := Cond.arrayClass_spec (args := #[Value.ref b]) (first := s) (o := none) (s := s) (idx := []) (xl_b C0 xa_ac_char)
  obtain ⟨c2, k2, p2, d1, d2, d3⟩ := Cond.arrayClass_spec (args := #[Value.ref b]) (first := s) (o := none) (s := s) (idx := []) (xl_b C0 xa_ac_boolean)
  obtain ⟨p3, c3, k3, e1, e2, e3, e4, e5⟩ := Cond.arrayOver_spec (args := #[Value.ref b]) (first := s) (o := none) (s := s) (idx := []) (C0.2.2.2.2.2.1 _ xl_ao1)
  obtain ⟨p4, c4, k4, f1, f2, f3, f4, f5⟩ := arrayOverA_spec (args := #[Value.ref b]) (first := s) (o := none) (s := s) (idx := []) (C0.2.2.2.2.2.1 _ xl_ao2)
  refine ⟨fun t => if t = 0 then c0 else if t = 1 then c1 else if t = 2 then c2 else if t = 3 then c3 else c4, fun k q h => ?_⟩
  have hk : k < 5 := (List.getElem?_eq_some_iff.mp h).1
  rcases (show k = 0 ∨ k = 1 ∨ k = 2 ∨ k = 3 ∨ k = 4 by omega) with rfl | rfl | rfl | rfl | rfl
  · cases h; exact ⟨xl_arr a2 a3, a1⟩
  · cases h; exact ⟨xl_arr b2 b3, b1⟩
  · cases h; exact ⟨xl_arr d2 d3, d1⟩
  · cases h; exact ⟨xl_arr e3 e4, k3, p3, e3, e4, e1, e5⟩
  · cases h; exact ⟨xl_arr f3 f4, f5⟩
abbrev xl_tm : Term := .string "TownAir" 62
set_option maxRecDepth 100000 in
theorem xl_n1 : Cond.exactly xl_tm "java/lang/String" ∈ flatC (Jvm.Cond.and given_1 narrow_1) := by decide +kernel
set_option maxRecDepth 100000 in
theorem xl_n2 : Cond.eq (.field xl_tm "java/lang/String" "coder" "B") (.int 0) ∈ flatC (Jvm.Cond.and given_1 narrow_1) := by decide +kernel
set_option maxRecDepth 100000 in
theorem xl_n3 : Cond.arrayOf (.field xl_tm "java/lang/String" "value" "[B") .byte ∈ flatC (Jvm.Cond.and given_1 narrow_1) := by decide +kernel
set_option maxRecDepth 100000 in
theorem xl_n4 : Cond.eq (.length (.field xl_tm "java/lang/String" "value" "[B")) (.int (Int32.ofNat 78)) ∈ flatC (Jvm.Cond.and given_1 narrow_1) := by decide +kernel
set_option maxRecDepth 100000 in
theorem xl_n5 : ∀ j, j < 78 → Cond.eq (.elem (.field xl_tm "java/lang/String" "value" "[B") (.int (Int32.ofNat j))) (.int (nI (xa_tx.getD j 0))) ∈ flatC (Jvm.Cond.and given_1 narrow_1) := by decide +kernel
set_option maxRecDepth 100000 in
theorem xl_n6 : Cond.eq (.static "java/lang/String" "COMPACT_STRINGS" "Z") (.int 1) ∈ flatC (Jvm.Cond.and given_1 narrow_1) := by decide +kernel
set_option maxRecDepth 100000 in
theorem xl_n7 : Cond.isRef (.static "jdk/internal/util/Preconditions" "SIOOBE_FORMATTER" "Ljava/util/function/BiFunction;") ∈ flatC (Jvm.Cond.and given_1 narrow_1) := by decide +kernel
set_option maxRecDepth 100000 in
theorem xl_t1 : Cond.laysStatic "java/lang/String" "COMPACT_STRINGS" "Z" ∈ lw_tbl := by decide +kernel
set_option maxRecDepth 100000 in
theorem xl_t2 : Cond.laysStatic "jdk/internal/util/Preconditions" "SIOOBE_FORMATTER" "Ljava/util/function/BiFunction;" ∈ lw_tbl := by decide +kernel
set_option maxRecDepth 100000 in
theorem xl_t3 : Cond.initialized "java/lang/String" ∈ lw_tbl := by decide +kernel
set_option maxRecDepth 100000 in
theorem xl_t4 : Cond.initialized "jdk/internal/util/Preconditions" ∈ lw_tbl := by decide +kernel
set_option maxRecDepth 100000 in
theorem xl_t5 : Cond.stringRef RX6 62 xa_TX ∈ lw_tbl := by decide +kernel
theorem xl_K {p : Program} {s : State} {m : MethodId} {meth : Method} {c : Code} {b L : Nat} {xs : Nat → Int32} (C0 : lw_At p s m meth c b L xs) : ∃ (D : va_G) (cA : Nat → ClassId) (sa : Nat), xa_K D cA s.heap.size s.heap sa s := by
  obtain ⟨D, hD⟩ := xl_cls C0
  obtain ⟨cA, hA⟩ := xl_tys C0
  obtain ⟨hx, hb, hr, hml, hown, hts, hX, hbl, hlocks, hgv⟩ := id C0
  have hs := flat_of_before _ hgv
  have hAq : ∀ a : Nat, a < s.heap.size → ¬ (fun q : Nat => s.heap.size ≤ q) a := fun a h => by show ¬ s.heap.size ≤ a; omega
  have hbt : ∀ j, ((xa_tx.map nI)).getD j 0 = nI (xa_tx.getD j 0) := fun j => by
    rw [List.getD_eq_getElem?_getD, List.getD_eq_getElem?_getD, List.getElem?_map]
    cases xa_tx[j]? <;> rfl
  obtain ⟨adK, adV, hS, hev⟩ := vk_Sof (args := #[Value.ref b]) (s := s) (N := 1) (tm := fun _ => xl_tm) (len := [78]) (byt := [xa_tx.map nI]) (A := fun q => s.heap.size ≤ q)
    (fun i hi => by have : i = 0 := by omega
                    subst this; decide) (fun i _ => hs _ xl_n1) (fun i _ => hs _ xl_n2) (fun i _ => hs _ xl_n3)
    (fun i hi => by have : i = 0 := by omega
                    subst this; exact hs _ xl_n4)
    (fun i hi j hj => by
      have : i = 0 := by omega
      subst this
      show (Cond.eq _ (.int ((xa_tx.map nI).getD j 0))).before _ _ = true
      rw [hbt]
      exact hs _ (xl_n5 j hj))
    (fun i j hi hj hne => absurd (by omega) hne) hAq
  obtain ⟨s1, s2, s3, s4⟩ := hS.1 0 (by omega)
  have s4 : va_T .byte (adV 0) 78 (fun j => .int (nI (xa_tx.getD j 0))) (fun q => s.heap.size ≤ q) s s.heap := by
    have e : (fun j => Value.int (([xa_tx.map nI].getD 0 []).getD j 0)) = (fun j => Value.int (nI (xa_tx.getD j 0))) := by funext j; exact congrArg Value.int (hbt j)
    rw [← e]
    exact s4
  refine ⟨D, cA, adK 0, ⟨hD, hA⟩, ⟨⟨⟨hts _ xl_t5, hev 0 (by omega)⟩, fun a i x h hm => hts _ hm⟩, hts _ xl_ao2, hts _ xl_ao1⟩, rfl, adV 0, s1, s2, s3, s4, va_Zof (hts _ xl_t1) (hts _ xl_t3) (va_eqi (hs _ xl_n6)) hAq, va_Zqof (hts _ xl_t2) (hts _ xl_t4) (hs _ xl_n7) hAq⟩
