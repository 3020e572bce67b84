theorem xa_imp {k n : Nat} {A : Prop} [Decidable A] (h : (!(k == n) || decide A) = true) : k = n → A := by
  intro e
  subst e
  simpa using h
def xa_ctc (own : Nat) (e : Nat × Nat × Nat × Nat × Nat × Nat × Nat) : Bool := match e with
  | (i, k, m2, n, pl, p2, p3) => match xa_mt[m2]? with
    | some z => (!(k == 0) || decide (lw_tbl[pl]? = some (.methodLink (xa_cn own) i z.1) ∧ lw_tbl[p2]? = some (.instanceMethod z.1) ∧ lw_tbl[p3]? = some (.selects z.1.cls z.1 z.1) ∧ (parseMethodDescriptor z.1.desc).map (fun d => d.parameters.length) = some (n - 1) ∧ 0 < n)) && (!(k == 1) || decide (lw_tbl[pl]? = some (.methodLink (xa_cn own) i z.1) ∧ lw_tbl[p2]? = some (.static z.1) ∧ (parseMethodDescriptor z.1.desc).map (fun d => d.parameters.length) = some n)) && (!(k == 2) || decide (lw_tbl[pl]? = some (.methodLink (xa_cn own) i z.1) ∧ lw_tbl[p2]? = some (.instanceMethod z.1) ∧ z.1.name = "<init>" ∧ (parseMethodDescriptor z.1.desc).map (fun d => d.parameters.length) = some (n - 1) ∧ 0 < n)) && (!(k == 3) || decide (lw_tbl[pl]? = some (.methodLinkNest (xa_cn own) i z.1 RX6) ∧ lw_tbl[p2]? = some (.static z.1) ∧ (parseMethodDescriptor z.1.desc).map (fun d => d.parameters.length) = some n)) && (!(k == 4) || decide (lw_tbl[pl]? = some (.methodLinkNest (xa_cn own) i z.1 RX6) ∧ lw_tbl[p2]? = some (.instanceMethod z.1) ∧ z.1.name = "<init>" ∧ (parseMethodDescriptor z.1.desc).map (fun d => d.parameters.length) = some (n - 1) ∧ 0 < n)) && (!(k == 5) || decide (lw_tbl[pl]? = some (.methodLink (xa_cn own) i objectInit))) && (!(k == 6) || decide (lw_tbl[pl]? = some (.methodLink (xa_cn own) i Lib.Math.max.name))) && (!(k == 7) || decide (lw_tbl[pl]? = some (.methodLink (xa_cn own) i Lib.Math.min.name))) && (!(k == 8) || decide (lw_tbl[pl]? = some (.methodLink (xa_cn own) i arraycopyName))) && (!(k == 9) || decide (lw_tbl[pl]? = some (.methodLink (xa_cn own) i ⟨"java/lang/String", "length", "()I"⟩))) && (!(k == 10) || decide (lw_tbl[pl]? = some (.methodLink (xa_cn own) i ⟨"java/lang/String", "charAt", "(I)C"⟩)))
    | none => false
set_option maxRecDepth 100000 in
theorem xa_ctt0 : ∀ e ∈ xa_ct 0, xa_ctc 0 e = true := by decide +kernel
set_option maxRecDepth 100000 in
theorem xa_ctt1 : ∀ e ∈ xa_ct 1, xa_ctc 1 e = true := by decide +kernel
set_option maxRecDepth 100000 in
theorem xa_ctt2 : ∀ e ∈ xa_ct 2, xa_ctc 2 e = true := by decide +kernel
set_option maxRecDepth 100000 in
theorem xa_ctt3 : ∀ e ∈ xa_ct 3, xa_ctc 3 e = true := by decide +kernel
set_option maxRecDepth 100000 in
theorem xa_ctt4 : ∀ e ∈ xa_ct 4, xa_ctc 4 e = true := by decide +kernel
set_option maxRecDepth 100000 in
theorem xa_ctt5 : ∀ e ∈ xa_ct 5, xa_ctc 5 e = true := by decide +kernel
set_option maxRecDepth 100000 in
theorem xa_ctt6 : ∀ e ∈ xa_ct 6, xa_ctc 6 e = true := by decide +kernel
set_option maxRecDepth 100000 in
theorem xa_ctt7 : ∀ e ∈ xa_ct 7, xa_ctc 7 e = true := by decide +kernel
theorem xa_ctt (own : Nat) : ∀ e ∈ xa_ct own, xa_ctc own e = true := by
  match own with
  | 0 => exact xa_ctt0
  | 1 => exact xa_ctt1
  | 2 => exact xa_ctt2
  | 3 => exact xa_ctt3
  | 4 => exact xa_ctt4
  | 5 => exact xa_ctt5
  | 6 => exact xa_ctt6
  | 7 => exact xa_ctt7
  | n + 8 => intro e h; cases h
def xa_ntc (own : Nat) (e : Nat × Nat × Nat) : Bool := match e with
  | (i, ci, pl) => if ci < 8 then decide (lw_tbl[pl]? = some (.classLink (xa_cn own) i (xa_cn ci))) else decide (lw_tbl[pl]? = some (.classLink (xa_cn own) i "[[I"))
set_option maxRecDepth 100000 in
theorem xa_ntt0 : ∀ e ∈ xa_nt 0, xa_ntc 0 e = true := by decide +kernel
set_option maxRecDepth 100000 in
theorem xa_ntt1 : ∀ e ∈ xa_nt 1, xa_ntc 1 e = true := by decide +kernel
set_option maxRecDepth 100000 in
theorem xa_ntt2 : ∀ e ∈ xa_nt 2, xa_ntc 2 e = true := by decide +kernel
set_option maxRecDepth 100000 in
theorem xa_ntt3 : ∀ e ∈ xa_nt 3, xa_ntc 3 e = true := by decide +kernel
set_option maxRecDepth 100000 in
theorem xa_ntt4 : ∀ e ∈ xa_nt 4, xa_ntc 4 e = true := by decide +kernel
set_option maxRecDepth 100000 in
theorem xa_ntt5 : ∀ e ∈ xa_nt 5, xa_ntc 5 e = true := by decide +kernel
set_option maxRecDepth 100000 in
theorem xa_ntt6 : ∀ e ∈ xa_nt 6, xa_ntc 6 e = true := by decide +kernel
set_option maxRecDepth 100000 in
theorem xa_ntt7 : ∀ e ∈ xa_nt 7, xa_ntc 7 e = true := by decide +kernel
theorem xa_ntt (own : Nat) : ∀ e ∈ xa_nt own, xa_ntc own e = true := by
  match own with
  | 0 => exact xa_ntt0
  | 1 => exact xa_ntt1
  | 2 => exact xa_ntt2
  | 3 => exact xa_ntt3
  | 4 => exact xa_ntt4
  | 5 => exact xa_ntt5
  | 6 => exact xa_ntt6
  | 7 => exact xa_ntt7
  | n + 8 => intro e h; cases h
def xa_ltc (own : Nat) (e : Nat × Nat × Nat) : Bool := match e with
  | (i, v, pl) => decide (lw_tbl[pl]? = some (.constantLong (xa_cn own) i (lN v)))
set_option maxRecDepth 100000 in
theorem xa_ltt0 : ∀ e ∈ xa_lt 0, xa_ltc 0 e = true := by decide +kernel
set_option maxRecDepth 100000 in
theorem xa_ltt1 : ∀ e ∈ xa_lt 1, xa_ltc 1 e = true := by decide +kernel
set_option maxRecDepth 100000 in
theorem xa_ltt2 : ∀ e ∈ xa_lt 2, xa_ltc 2 e = true := by decide +kernel
set_option maxRecDepth 100000 in
theorem xa_ltt3 : ∀ e ∈ xa_lt 3, xa_ltc 3 e = true := by decide +kernel
set_option maxRecDepth 100000 in
theorem xa_ltt4 : ∀ e ∈ xa_lt 4, xa_ltc 4 e = true := by decide +kernel
set_option maxRecDepth 100000 in
theorem xa_ltt5 : ∀ e ∈ xa_lt 5, xa_ltc 5 e = true := by decide +kernel
set_option maxRecDepth 100000 in
theorem xa_ltt6 : ∀ e ∈ xa_lt 6, xa_ltc 6 e = true := by decide +kernel
set_option maxRecDepth 100000 in
theorem xa_ltt7 : ∀ e ∈ xa_lt 7, xa_ltc 7 e = true := by decide +kernel
theorem xa_ltt (own : Nat) : ∀ e ∈ xa_lt own, xa_ltc own e = true := by
  match own with
  | 0 => exact xa_ltt0
  | 1 => exact xa_ltt1
  | 2 => exact xa_ltt2
  | 3 => exact xa_ltt3
  | 4 => exact xa_ltt4
  | 5 => exact xa_ltt5
  | 6 => exact xa_ltt6
  | 7 => exact xa_ltt7
  | n + 8 => intro e h; cases h
set_option maxRecDepth 100000 in
theorem xa_acn : xa_in (.native arraycopyName) := xa_pl 378 rfl rfl
set_option maxRecDepth 100000 in
theorem xa_acs : xa_in (.static arraycopyName) := xa_pl 377 rfl rfl
set_option maxRecDepth 100000 in
theorem xa_aci : xa_in (.initialized "java/lang/System") := xa_pl 57 rfl rfl
set_option maxRecDepth 100000 in
theorem xa_mi : xa_in (.initialized "java/lang/Math") := xa_pl 50 rfl rfl
set_option maxRecDepth 100000 in
theorem xa_maxs : xa_in (.static Lib.Math.max.name) := xa_pl 200 rfl rfl
set_option maxRecDepth 100000 in
theorem xa_maxc : xa_in (.code Lib.Math.max.name Lib.Math.max.code 2 (some .int)) := xa_pl 201 rfl rfl
set_option maxRecDepth 100000 in
theorem xa_mins : xa_in (.static Lib.Math.min.name) := xa_pl 374 rfl rfl
set_option maxRecDepth 100000 in
theorem xa_minc : xa_in (.code Lib.Math.min.name Lib.Math.min.code 2 (some .int)) := xa_pl 375 rfl rfl
set_option maxRecDepth 100000 in
theorem xa_oi : xa_in (.instanceMethod objectInit) := xa_pl 65 rfl rfl
set_option maxRecDepth 100000 in
theorem xa_oc : xa_in (.code objectInit ⟨#[0xb1]⟩ 1 none) := xa_pl 66 rfl rfl
set_option maxRecDepth 100000 in
theorem xa_ac_int : xa_in (.arrayClass .int) := xa_pl 88 rfl rfl
set_option maxRecDepth 100000 in
theorem xa_ac_char : xa_in (.arrayClass .char) := xa_pl 87 rfl rfl
set_option maxRecDepth 100000 in
theorem xa_ac_boolean : xa_in (.arrayClass .boolean) := xa_pl 767 rfl rfl
