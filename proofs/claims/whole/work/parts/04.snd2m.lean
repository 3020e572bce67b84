section XaMna
variable {E : CtlPost} {e : Env} {d : Bool} {acts : List Action} {s : State}
/-- one row of zeros or nulls -/
theorem xw_new {c comp : ClassId} {k : Class} {type : FieldType} {len : Nat} {init : Value} (hk : s.vm.classes[c]? = some k) (hkind : k.kind = .array comp type)
    (hlimit : ¬ len > e.platform.arrayLengthLimit) (hheap : ¬ len * componentBytes type > e.platform.maxHeapBytes) (hfit : fits type init = true) (hdef : init.isDefault = true) {Q : Addr → Pre}
    (h1 : s.heap.size < e.platform.maxCells) (h2 : s.slotsUsed + len ≤ e.platform.maxSlots)
    (hq : Q s.heap.size d acts (s.pushCell { cls := c, slots := Array.replicate len init, vm := .none })) : wp (Jvm.newArray c len init) Q E e d acts s := by
  have hf : ∀ i v, (Array.replicate len init)[i]? = some v → s.fitsSlot c .none i v = true := by
    intro i v hv
    have hv2 : v = init := by
      rw [Array.getElem?_replicate] at hv
      split at hv
      · exact (Option.some.inj hv).symm
      · cases hv
    subst hv2
    simp [State.fitsSlot, State.slotType?, hk, hkind, hfit]
  have ha : allocActs (Array.replicate len init) s.heap.size acts = acts := by
    unfold allocActs
    rw [if_pos (by rw [Array.all_replicate]; split <;> simp [hdef])]
  simp only [Jvm.newArray, Jvm.arrayFits, wp_bind', W.ask, W.ite, hlimit, if_false, wp_pure', W.theClass, hk, hkind, hheap, W.alloc, W.stop, Option.some.injEq, exists_eq_left', Array.size_replicate, ha]
  rw [if_neg (by omega)]
  exact ⟨h1, h2, hf, hq⟩
def xw_o0 (c : ClassId) : Cell := { cls := c, slots := Array.replicate 2 .null, vm := .none }
def xw_in (c : ClassId) : Cell := { cls := c, slots := Array.replicate 61 (.int 0), vm := .none }
def xw_o1 (c : ClassId) (h : Nat) : Cell := (xw_o0 c).setSlot 0 (.ref (h + 1))
def xw_o2 (c : ClassId) (h : Nat) : Cell := (xw_o1 c h).setSlot 1 (.ref (h + 2))
def xw_t1 (s : State) (c : ClassId) : State := s.pushCell (xw_o0 c)
def xw_t2 (s : State) (c ci : ClassId) : State := ((xw_t1 s c).pushCell (xw_in ci)).setCell s.heap.size (xw_o1 c s.heap.size)
def xw_t3 (s : State) (c ci : ClassId) : State := ((xw_t2 s c ci).pushCell (xw_in ci)).setCell s.heap.size (xw_o2 c s.heap.size)
theorem xw_s1 (s : State) (c : ClassId) : (xw_t1 s c).heap.size = s.heap.size + 1 ∧ (xw_t1 s c).heap[s.heap.size]? = some (xw_o0 c) ∧ (xw_t1 s c).vm = s.vm ∧ (xw_t1 s c).slotsUsed = s.slotsUsed + 2 := ⟨by simp [xw_t1], by simp [xw_t1], rfl, by simp [xw_t1, xw_o0]⟩
theorem xw_s2 (s : State) (c ci : ClassId) : (xw_t2 s c ci).heap.size = s.heap.size + 2 ∧ (xw_t2 s c ci).heap[s.heap.size]? = some (xw_o1 c s.heap.size) ∧ (xw_t2 s c ci).vm = s.vm ∧ (xw_t2 s c ci).slotsUsed = s.slotsUsed + 63 ∧ (xw_t2 s c ci).heap[s.heap.size + 1]? = some (xw_in ci) := by
  obtain ⟨a, b, v, u⟩ := xw_s1 s c
  have hlt : s.heap.size < (xw_t1 s c).heap.size := by omega
  have hb' : ((xw_t1 s c).pushCell (xw_in ci)).heap[s.heap.size]? = some (xw_o0 c) := by rw [State.heap_pushCell_of_lt (h := hlt)]; exact b
  refine ⟨by simp [xw_t2, State.setCell, a], State.heap_setCell_self hb', by simp [xw_t2, v], by simp [xw_t2, u, xw_in], ?_⟩
  show (((xw_t1 s c).pushCell (xw_in ci)).setCell s.heap.size _).heap[s.heap.size + 1]? = _
  rw [State.heap_setCell_other (show s.heap.size ≠ s.heap.size + 1 by omega), ← a]
  exact State.heap_pushCell_size _ _
theorem xw_s3 (s : State) (c ci : ClassId) : (xw_t3 s c ci).heap.size = s.heap.size + 3 ∧ (xw_t3 s c ci).heap[s.heap.size]? = some (xw_o2 c s.heap.size) ∧ (xw_t3 s c ci).vm = s.vm ∧ (xw_t3 s c ci).heap[s.heap.size + 1]? = some (xw_in ci) ∧ (xw_t3 s c ci).heap[s.heap.size + 2]? = some (xw_in ci) ∧ ∀ a, a < s.heap.size → (xw_t3 s c ci).heap[a]? = s.heap[a]? := by
  obtain ⟨a, b, v, u, w⟩ := xw_s2 s c ci
  have hlt : s.heap.size < (xw_t2 s c ci).heap.size := by omega
  have hb' : ((xw_t2 s c ci).pushCell (xw_in ci)).heap[s.heap.size]? = some (xw_o1 c s.heap.size) := by rw [State.heap_pushCell_of_lt (h := hlt)]; exact b
  refine ⟨by simp [xw_t3, State.setCell, a], State.heap_setCell_self hb', by simp [xw_t3, v], ?_, ?_, fun x hx => ?_⟩
  · show (((xw_t2 s c ci).pushCell (xw_in ci)).setCell s.heap.size _).heap[s.heap.size + 1]? = _
    rw [State.heap_setCell_other (show s.heap.size ≠ s.heap.size + 1 by omega), State.heap_pushCell_of_lt (h := show s.heap.size + 1 < (xw_t2 s c ci).heap.size by omega)]
    exact w
  · show (((xw_t2 s c ci).pushCell (xw_in ci)).setCell s.heap.size _).heap[s.heap.size + 2]? = _
    rw [State.heap_setCell_other (show s.heap.size ≠ s.heap.size + 2 by omega), ← a]
    exact State.heap_pushCell_size _ _
  · show (((xw_t2 s c ci).pushCell (xw_in ci)).setCell s.heap.size _).heap[x]? = _
    rw [State.heap_setCell_other (show s.heap.size ≠ x by omega), State.heap_pushCell_of_lt (h := show x < (xw_t2 s c ci).heap.size by omega)]
    show (((xw_t1 s c).pushCell (xw_in ci)).setCell s.heap.size _).heap[x]? = _
    rw [State.heap_setCell_other (show s.heap.size ≠ x by omega), State.heap_pushCell_of_lt (h := show x < (xw_t1 s c).heap.size by rw [(xw_s1 s c).1]; omega)]
    exact State.heap_pushCell_of_lt _ _ hx
theorem xw_make1 {comp cc : ClassId} {kc : Class} (hkc : s.vm.classes[comp]? = some kc) (hkindc : kc.kind = .array cc .int)
    (hl2 : ¬ 61 > e.platform.arrayLengthLimit) (hh2 : ¬ 61 * componentBytes .int > e.platform.maxHeapBytes) (h1 : s.heap.size < e.platform.maxCells) (h2 : s.slotsUsed + 61 ≤ e.platform.maxSlots)
    {Q : Addr → Pre} (hq : Q s.heap.size d acts (s.pushCell (xw_in comp))) : wp (multianewarray.make comp [nI 61]) Q E e d acts s := by
  rw [multianewarray.make]
  have hm : ¬ nI 61 < 0 := by decide
  simp only [wp_bind', W.ite, hm, if_false, wp_pure', W.theClass, hkc, hkindc, Option.some.injEq, exists_eq_left']
  exact xw_new (len := 61) hkc hkindc hl2 hh2 rfl rfl h1 h2 hq
theorem xw_make2 {c comp cc : ClassId} {k kc : Class} (hk : s.vm.classes[c]? = some k) (hkind : k.kind = .array comp (.array .int)) (hkc : s.vm.classes[comp]? = some kc) (hkindc : kc.kind = .array cc .int)
    (hl1 : ¬ 2 > e.platform.arrayLengthLimit) (hh1 : ¬ 2 * componentBytes (.array .int) > e.platform.maxHeapBytes) (hl2 : ¬ 61 > e.platform.arrayLengthLimit) (hh2 : ¬ 61 * componentBytes .int > e.platform.maxHeapBytes)
    (hc : s.heap.size + 3 ≤ e.platform.maxCells) (hs : s.slotsUsed + 124 ≤ e.platform.maxSlots)
    {Q : Addr → Pre} (hq : ∀ d' acts', Q s.heap.size d' acts' (xw_t3 s c comp)) : wp (multianewarray.make c [nI 2, nI 61]) Q E e d acts s := by
  have hn : ¬ nI 2 < 0 := by decide
  have h0 : (nI 2 == 0) = false := by decide
  have e2 : (nI 2).toNatClampNeg = 2 := by decide
  rw [multianewarray.make]
  simp only [wp_bind', W.ite, hn, if_false, wp_pure', W.theClass, hk, hkind, Option.some.injEq, exists_eq_left']
  rw [e2]
  refine xw_new (len := 2) hk hkind hl1 hh1 rfl rfl (by omega) (by omega) ?_
  simp only [h0, Bool.false_eq_true, if_false]
  rw [Std.Legacy.Range.forIn_eq_forIn_range']
  have hr : List.range' ([:2] : Std.Legacy.Range).start ([:2] : Std.Legacy.Range).size ([:2] : Std.Legacy.Range).step = [0, 1] := by decide
  rw [hr]
  obtain ⟨a1, a2, a3, a4⟩ := xw_s1 s c
  obtain ⟨b1, b2, b3, b4, b5⟩ := xw_s2 s c comp
  simp only [List.forIn_cons, List.forIn_nil, wp_bind']
  refine xw_make1 (s := xw_t1 s c) (by rw [a3]; exact hkc) hkindc hl2 hh2 (by omega) (by omega) ?_
  simp only [wp_bind', W.writeLoc, wp_pure']
  refine ⟨xw_o0 c, ?_, ?_, ?_, ?_, ?_⟩
  · rw [State.heap_pushCell_of_lt (h := show s.heap.size < (xw_t1 s c).heap.size by omega)]; exact a2
  · simp [xw_o0]
  · simp [xw_o0]
  · simp [State.fitsSlot, State.slotType?, xw_o0, a3, hk, hkind, fits]
  rw [show (((xw_t1 s c).pushCell (xw_in comp)).setCell s.heap.size ((xw_o0 c).setSlot 0 (Value.ref (Array.size (xw_t1 s c).heap)))) = xw_t2 s c comp by rw [a1]; rfl]
  refine xw_make1 (s := xw_t2 s c comp) (by rw [b3]; exact hkc) hkindc hl2 hh2 (by omega) (by omega) ?_
  simp only [wp_bind', W.writeLoc, wp_pure']
  refine ⟨xw_o1 c s.heap.size, ?_, ?_, ?_, ?_, ?_⟩
  · rw [State.heap_pushCell_of_lt (h := show s.heap.size < (xw_t2 s c comp).heap.size by omega)]; exact b2
  · simp [xw_o1, xw_o0, Cell.setSlot]
  · simp [xw_o1, xw_o0, Cell.setSlot]
  · simp [State.fitsSlot, State.slotType?, xw_o1, xw_o0, Cell.setSlot, b3, hk, hkind, fits]
  rw [show (((xw_t2 s c comp).pushCell (xw_in comp)).setCell s.heap.size ((xw_o1 c s.heap.size).setSlot 1 (Value.ref (Array.size (xw_t2 s c comp).heap)))) = xw_t3 s c comp by rw [b1]; rfl]
  exact hq _ _
theorem xw_setTop (s : State) (f : JFrame) (c ci : ClassId) : xw_t3 (s.setTop f) c ci = (xw_t3 s c ci).setTop f := by
  simp only [xw_t3, xw_t2, xw_t1, State.heap_setTop, State.pushCell_setTop, State.setCell_setTop]
end XaMna
section XaMnb
variable {p : Program} {l : Launch} {e : Env} {R : Room} {s : State} {m : MethodId} {args : Array Value} {below : List Frame} {meth : Method} {c : Code} {T : State} {locs : List Loc} {cells slots : Nat}
theorem xw_stand (X : Stand p l e R s m args below meth c T locs cells slots) (cA ci : ClassId) : Stand p l e R s m args below meth c (xw_t3 T cA ci) (locs ++ [⟨T.heap.size, 0⟩] ++ [⟨T.heap.size, 1⟩]) (cells + 3) (slots + 124) := by
  obtain ⟨a1, a2, a3, a4⟩ := xw_s1 T cA
  obtain ⟨b1, b2, b3, b4, b5⟩ := xw_s2 T cA ci
  have x1 : Stand p l e R s m args below meth c (xw_t1 T cA) locs (cells + 1) (slots + 2) := by
    have h := X.pushed (xw_o0 cA)
    simpa [xw_o0, xw_t1] using h
  have x2 : Stand p l e R s m args below meth c (xw_t2 T cA ci) (locs ++ [⟨T.heap.size, 0⟩]) (cells + 2) (slots + 63) := by
    have h := (x1.pushed (xw_in ci)).stored (by rw [State.heap_pushCell_of_lt (h := show T.heap.size < (xw_t1 T cA).heap.size by omega)]; exact a2) 0 (.ref (T.heap.size + 1))
    simpa [xw_in, xw_t2, xw_o1] using h
  have h := (x2.pushed (xw_in ci)).stored (by rw [State.heap_pushCell_of_lt (h := show T.heap.size < (xw_t2 T cA ci).heap.size by omega)]; exact b2) 1 (.ref (T.heap.size + 2))
  simpa [xw_in, xw_t3, xw_o2] using h
theorem xw_multi (X : Stand p l e R s m args below meth c T locs cells slots) (hexec : p.tables.exec = Jvm.exec) {own : String} {index : Nat}
    (hown : s.vm.findClass own = some m.cls) (hclink : (Cond.classLink own index "[[I").before args s = true) (hover : (Cond.arrayOver (.array .int)).before args s = true) (harr : (Cond.arrayClass .int).before args s = true)
    {g : JFrame} (hg : g.method = m) (hdg : decode c.code g.pc = .ok (.multianewarray index 2, 4)) {rest : List Value} (hstack : g.stack = .int (nI 61) :: .int (nI 2) :: rest) (hcells : cells + 3 ≤ R.cells) (hslots : slots + 124 ≤ R.slots) :
    ∃ (vm₁ : Vm) (cA comp : ClassId), s.WarmedH vm₁ ∧ s.vm.findClass "[[I" = some cA ∧ s.vm.findClass "[I" = some comp ∧
      Stand p l e R s m args below meth c (xw_t3 (T.setVm vm₁) cA comp) (locs ++ [⟨T.heap.size, 0⟩] ++ [⟨T.heap.size, 1⟩]) (cells + 3) (slots + 124) ∧
      ∀ target, Steps p.tables e below ((xw_t3 (T.setVm vm₁) cA comp).setTop { g with pc := g.pc + 4, stack := .ref T.heap.size :: rest }) target → Steps p.tables e below (T.setTop g) target := by
  subst hg
  have hpl : e.platform.magicAccessors = ({} : Platform).magicAccessors := by rw [X.admits.platform]
  obtain ⟨comp, cA, kA, hcomp, -, hkA, hkindA, hnameA⟩ := arrayOverA_spec hover
  obtain ⟨comp', kC, cc, hcomp', hkC, hkindC⟩ := Cond.arrayClass_spec harr
  have ecomp : comp' = comp := Option.some.inj (hcomp'.symm.trans hcomp)
  subst ecomp
  obtain ⟨c0, hfc0, hcl⟩ := Cond.classLink_spec hown hclink e.platform hpl
  cases hnameA.symm.trans hfc0
  obtain ⟨hg₁, hwarm₁, hready₁⟩ := State.classEntry (e := e) X.warmed hcl
  generalize T.vm.noted g.method.cls index (.cls cA) = vm₁ at hg₁ hwarm₁ hready₁
  have hal : s.vm.Alike vm₁ := hwarm₁.alike
  obtain ⟨kA₁, hkA₁, heA⟩ := hal.2.2 _ _ hkA
  obtain ⟨kC₁, hkC₁, heC⟩ := hal.2.2 _ _ hkC
  have hkindA₁ : kA₁.kind = .array comp' (.array .int) := by rw [heA]; exact hkindA
  have hkindC₁ : kC₁.kind = .array cc .int := by rw [heC]; exact hkindC
  have X₁ := X.noted hwarm₁
  obtain ⟨hr1, hr2⟩ := X.roomAbove hcells hslots
  refine ⟨vm₁, cA, comp', hwarm₁, hnameA, hcomp, xw_stand X₁ cA comp', fun target hrest => ?_⟩
  have al := Launch.admits_arrayLengthLimit X.admits
  have ah := Launch.admits_maxHeapBytes X.admits
  jvm_step X.here [hexec, hdg]
  simp only [multianewarray.sem, wp_bind', W.resolveClassAt_links (State.method?_setTop g X.here.top) hg₁]
  rw [W.popN, if_neg (by decide)]
  refine ⟨g, State.topJava?_setTop' (s := T.setVm vm₁) g X.here.top, [.int (nI 2), .int (nI 61)], rest, rfl, hstack, ?_⟩
  simp only [List.mapM_cons, List.mapM_nil, wp_bind', wp_pure']
  refine xw_make2 (k := kA₁) (kc := kC₁) (comp := comp') (cc := cc) hkA₁ hkindA₁ hkC₁ hkindC₁ (by rw [al]; omega) (by rw [ah]; decide) (by rw [al]; omega) (by rw [ah]; decide) (by show T.heap.size + 3 ≤ _; omega) (by show T.slotsUsed + 124 ≤ _; omega) (fun d' acts' => ?_)
  have XF := xw_stand X₁ cA comp'
  have eS : ((T.setTop g).setVm vm₁).setTop { g with stack := rest } = (T.setVm vm₁).setTop { g with stack := rest } := by
    show ((T.setVm vm₁).setTop g).setTop _ = _
    rw [State.setTop_setTop]
  rw [eS, xw_setTop]
  simp only [wp_bind', W.mark, W.pushRef, State.topJava?_setTop' _ XF.here.top, Option.some.injEq, exists_eq_left', State.setTop_setTop, State.heap_setTop]
  intro acts
  simp [jvm, XF.here.top]
  exact hrest
end XaMnb
