set_option maxRecDepth 100000 in
theorem xlc_0 {p : Program} {l : Launch} {e : Env} {s : State} {m : MethodId} {below : List Frame} {meth : Method} {c : Code} {b L : Nat} {xs : Nat → Int32} (C0 : lw_At p s m meth c b L xs) {D : va_G} {cA : Nat → ClassId} {sa i : Nat} {M : xa_M} {H : Heap} {locs : List Loc} {Q : State → Prop} {ls : Array Slot}
    (hK : xa_K D cA s.heap.size s.heap sa s) (hst : xl_st s D cA sa M H locs) (hl : lv_has ls 4 (xl_lv b s.heap.size i)) (hi : i + 5 ≤ L) (hL : L ≤ 2560)
    (kk : ∀ (M2 : xa_M) (H2 : Heap) (L2 : List Loc), xl_st s D cA sa M2 H2 L2 → W p l e room_1 s m #[Value.ref b] below meth c H2 L2 117 2819 Q (F0 m 887 ls [])) : W p l e room_1 s m #[Value.ref b] below meth c H locs 117 2819 Q (F0 m 156 ls []) :=
  xl_case1 C0 (p0 := 156) (z1 := mi_50) (z2 := mi_105) hK hst hl hi hL (fun A a b c => xj_write a b c (Nat.le_refl _) _) mh_50 (xa_pl 408 rfl rfl) (xa_pl 409 rfl rfl) (xa_pl 410 rfl rfl) (by decide +kernel) (by decide) (by decide) rfl mh_105 (xa_pl 768 rfl rfl) (xa_pl 769 rfl rfl) (xa_pl 770 rfl rfl) (by decide +kernel) (by decide) (by decide) rfl dl_156 dl_157 dl_158 dl_159 dl_160 dl_161 dl_162 dl_165 dl_166 dl_167 dl_168 dl_169 dl_170 dl_171 dl_174 (by decide) kk
set_option maxRecDepth 100000 in
theorem xlc_1 {p : Program} {l : Launch} {e : Env} {s : State} {m : MethodId} {below : List Frame} {meth : Method} {c : Code} {b L : Nat} {xs : Nat → Int32} (C0 : lw_At p s m meth c b L xs) {D : va_G} {cA : Nat → ClassId} {sa i : Nat} {M : xa_M} {H : Heap} {locs : List Loc} {Q : State → Prop} {ls : Array Slot}
    (hK : xa_K D cA s.heap.size s.heap sa s) (hst : xl_st s D cA sa M H locs) (hl : lv_has ls 4 (xl_lv b s.heap.size i)) (hi : i + 5 ≤ L) (hL : L ≤ 2560)
    (kk : ∀ (M2 : xa_M) (H2 : Heap) (L2 : List Loc), xl_st s D cA sa M2 H2 L2 → W p l e room_1 s m #[Value.ref b] below meth c H2 L2 117 2819 Q (F0 m 887 ls [])) : W p l e room_1 s m #[Value.ref b] below meth c H locs 117 2819 Q (F0 m 179 ls []) :=
  xl_case0 C0 (p0 := 179) (z1 := mi_51) (z2 := mi_106) hK hst hl hi hL (fun A a b c => xj_wipe a b c (Nat.le_refl _)) mh_51 (xa_pl 413 rfl rfl) (xa_pl 414 rfl rfl) (xa_pl 415 rfl rfl) (by decide +kernel) (by decide) (by decide) rfl mh_106 (xa_pl 777 rfl rfl) (xa_pl 778 rfl rfl) (xa_pl 779 rfl rfl) (by decide +kernel) (by decide) (by decide) rfl dl_179 dl_180 dl_183 dl_184 dl_187 (by decide) kk
set_option maxRecDepth 100000 in
theorem xlc_2 {p : Program} {l : Launch} {e : Env} {s : State} {m : MethodId} {below : List Frame} {meth : Method} {c : Code} {b L : Nat} {xs : Nat → Int32} (C0 : lw_At p s m meth c b L xs) {D : va_G} {cA : Nat → ClassId} {sa i : Nat} {M : xa_M} {H : Heap} {locs : List Loc} {Q : State → Prop} {ls : Array Slot}
    (hK : xa_K D cA s.heap.size s.heap sa s) (hst : xl_st s D cA sa M H locs) (hl : lv_has ls 4 (xl_lv b s.heap.size i)) (hi : i + 5 ≤ L) (hL : L ≤ 2560)
    (kk : ∀ (M2 : xa_M) (H2 : Heap) (L2 : List Loc), xl_st s D cA sa M2 H2 L2 → W p l e room_1 s m #[Value.ref b] below meth c H2 L2 117 2819 Q (F0 m 887 ls [])) : W p l e room_1 s m #[Value.ref b] below meth c H locs 117 2819 Q (F0 m 192 ls []) :=
  xl_case0 C0 (p0 := 192) (z1 := mi_52) (z2 := mi_114) hK hst hl hi hL (fun A a b c => xj_fault a b c (Nat.le_refl _)) mh_52 (xa_pl 417 rfl rfl) (xa_pl 418 rfl rfl) (xa_pl 419 rfl rfl) (by decide +kernel) (by decide) (by decide) rfl mh_114 (xa_pl 781 rfl rfl) (xa_pl 782 rfl rfl) (xa_pl 783 rfl rfl) (by decide +kernel) (by decide) (by decide) rfl dl_192 dl_193 dl_196 dl_197 dl_200 (by decide) kk
set_option maxRecDepth 100000 in
theorem xlc_3 {p : Program} {l : Launch} {e : Env} {s : State} {m : MethodId} {below : List Frame} {meth : Method} {c : Code} {b L : Nat} {xs : Nat → Int32} (C0 : lw_At p s m meth c b L xs) {D : va_G} {cA : Nat → ClassId} {sa i : Nat} {M : xa_M} {H : Heap} {locs : List Loc} {Q : State → Prop} {ls : Array Slot}
    (hK : xa_K D cA s.heap.size s.heap sa s) (hst : xl_st s D cA sa M H locs) (hl : lv_has ls 4 (xl_lv b s.heap.size i)) (hi : i + 5 ≤ L) (hL : L ≤ 2560)
    (kk : ∀ (M2 : xa_M) (H2 : Heap) (L2 : List Loc), xl_st s D cA sa M2 H2 L2 → W p l e room_1 s m #[Value.ref b] below meth c H2 L2 117 2819 Q (F0 m 887 ls [])) : W p l e room_1 s m #[Value.ref b] below meth c H locs 117 2819 Q (F0 m 205 ls []) :=
  xl_case0 C0 (p0 := 205) (z1 := mi_53) (z2 := mi_115) hK hst hl hi hL (fun A a b c => xj_lay a b c (Nat.le_refl _)) mh_53 (xa_pl 421 rfl rfl) (xa_pl 422 rfl rfl) (xa_pl 423 rfl rfl) (by decide +kernel) (by decide) (by decide) rfl mh_115 (xa_pl 815 rfl rfl) (xa_pl 816 rfl rfl) (xa_pl 817 rfl rfl) (by decide +kernel) (by decide) (by decide) rfl dl_205 dl_206 dl_209 dl_210 dl_213 (by decide) kk
set_option maxRecDepth 100000 in
theorem xlc_4 {p : Program} {l : Launch} {e : Env} {s : State} {m : MethodId} {below : List Frame} {meth : Method} {c : Code} {b L : Nat} {xs : Nat → Int32} (C0 : lw_At p s m meth c b L xs) {D : va_G} {cA : Nat → ClassId} {sa i : Nat} {M : xa_M} {H : Heap} {locs : List Loc} {Q : State → Prop} {ls : Array Slot}
    (hK : xa_K D cA s.heap.size s.heap sa s) (hst : xl_st s D cA sa M H locs) (hl : lv_has ls 4 (xl_lv b s.heap.size i)) (hi : i + 5 ≤ L) (hL : L ≤ 2560)
    (kk : ∀ (M2 : xa_M) (H2 : Heap) (L2 : List Loc), xl_st s D cA sa M2 H2 L2 → W p l e room_1 s m #[Value.ref b] below meth c H2 L2 117 2819 Q (F0 m 887 ls [])) : W p l e room_1 s m #[Value.ref b] below meth c H locs 117 2819 Q (F0 m 218 ls []) :=
  xl_case2 C0 (p0 := 218) (z1 := mi_54) (z2 := mi_122) hK hst hl hi hL (fun A a b c => xj_serf a b c (Nat.le_refl _) _ _) mh_54 (xa_pl 430 rfl rfl) (xa_pl 431 rfl rfl) (xa_pl 432 rfl rfl) (by decide +kernel) (by decide) (by decide) rfl mh_122 (xa_pl 820 rfl rfl) (xa_pl 821 rfl rfl) (xa_pl 822 rfl rfl) (by decide +kernel) (by decide) (by decide) rfl dl_218 dl_219 dl_220 dl_221 dl_222 dl_223 dl_224 dl_225 dl_226 dl_227 dl_228 dl_229 dl_232 dl_233 dl_234 dl_235 dl_236 dl_237 dl_238 dl_239 dl_240 dl_241 dl_242 dl_243 dl_246 (by decide) kk
set_option maxRecDepth 100000 in
theorem xlc_5 {p : Program} {l : Launch} {e : Env} {s : State} {m : MethodId} {below : List Frame} {meth : Method} {c : Code} {b L : Nat} {xs : Nat → Int32} (C0 : lw_At p s m meth c b L xs) {D : va_G} {cA : Nat → ClassId} {sa i : Nat} {M : xa_M} {H : Heap} {locs : List Loc} {Q : State → Prop} {ls : Array Slot}
    (hK : xa_K D cA s.heap.size s.heap sa s) (hst : xl_st s D cA sa M H locs) (hl : lv_has ls 4 (xl_lv b s.heap.size i)) (hi : i + 5 ≤ L) (hL : L ≤ 2560)
    (kk : ∀ (M2 : xa_M) (H2 : Heap) (L2 : List Loc), xl_st s D cA sa M2 H2 L2 → W p l e room_1 s m #[Value.ref b] below meth c H2 L2 117 2819 Q (F0 m 887 ls [])) : W p l e room_1 s m #[Value.ref b] below meth c H locs 117 2819 Q (F0 m 251 ls []) :=
  xl_case2 C0 (p0 := 251) (z1 := mi_55) (z2 := mi_123) hK hst hl hi hL (fun A a b c => xj_man a b c (Nat.le_refl _) _ _) mh_55 (xa_pl 442 rfl rfl) (xa_pl 443 rfl rfl) (xa_pl 444 rfl rfl) (by decide +kernel) (by decide) (by decide) rfl mh_123 (xa_pl 853 rfl rfl) (xa_pl 854 rfl rfl) (xa_pl 855 rfl rfl) (by decide +kernel) (by decide) (by decide) rfl dl_251 dl_252 dl_253 dl_254 dl_255 dl_256 dl_257 dl_258 dl_259 dl_260 dl_261 dl_262 dl_265 dl_266 dl_267 dl_268 dl_269 dl_270 dl_271 dl_272 dl_273 dl_274 dl_275 dl_276 dl_279 (by decide) kk
set_option maxRecDepth 100000 in
theorem xlc_6 {p : Program} {l : Launch} {e : Env} {s : State} {m : MethodId} {below : List Frame} {meth : Method} {c : Code} {b L : Nat} {xs : Nat → Int32} (C0 : lw_At p s m meth c b L xs) {D : va_G} {cA : Nat → ClassId} {sa i : Nat} {M : xa_M} {H : Heap} {locs : List Loc} {Q : State → Prop} {ls : Array Slot}
    (hK : xa_K D cA s.heap.size s.heap sa s) (hst : xl_st s D cA sa M H locs) (hl : lv_has ls 4 (xl_lv b s.heap.size i)) (hi : i + 5 ≤ L) (hL : L ≤ 2560)
    (kk : ∀ (M2 : xa_M) (H2 : Heap) (L2 : List Loc), xl_st s D cA sa M2 H2 L2 → W p l e room_1 s m #[Value.ref b] below meth c H2 L2 117 2819 Q (F0 m 887 ls [])) : W p l e room_1 s m #[Value.ref b] below meth c H locs 117 2819 Q (F0 m 284 ls []) :=
  xl_case2 C0 (p0 := 284) (z1 := mi_56) (z2 := mi_127) hK hst hl hi hL (fun A a b c => xj_move a b c (Nat.le_refl _) _ _) mh_56 (xa_pl 450 rfl rfl) (xa_pl 451 rfl rfl) (xa_pl 452 rfl rfl) (by decide +kernel) (by decide) (by decide) rfl mh_127 (xa_pl 862 rfl rfl) (xa_pl 863 rfl rfl) (xa_pl 864 rfl rfl) (by decide +kernel) (by decide) (by decide) rfl dl_284 dl_285 dl_286 dl_287 dl_288 dl_289 dl_290 dl_291 dl_292 dl_293 dl_294 dl_295 dl_298 dl_299 dl_300 dl_301 dl_302 dl_303 dl_304 dl_305 dl_306 dl_307 dl_308 dl_309 dl_312 (by decide) kk
set_option maxRecDepth 100000 in
theorem xlc_7 {p : Program} {l : Launch} {e : Env} {s : State} {m : MethodId} {below : List Frame} {meth : Method} {c : Code} {b L : Nat} {xs : Nat → Int32} (C0 : lw_At p s m meth c b L xs) {D : va_G} {cA : Nat → ClassId} {sa i : Nat} {M : xa_M} {H : Heap} {locs : List Loc} {Q : State → Prop} {ls : Array Slot}
    (hK : xa_K D cA s.heap.size s.heap sa s) (hst : xl_st s D cA sa M H locs) (hl : lv_has ls 4 (xl_lv b s.heap.size i)) (hi : i + 5 ≤ L) (hL : L ≤ 2560)
    (kk : ∀ (M2 : xa_M) (H2 : Heap) (L2 : List Loc), xl_st s D cA sa M2 H2 L2 → W p l e room_1 s m #[Value.ref b] below meth c H2 L2 117 2819 Q (F0 m 887 ls [])) : W p l e room_1 s m #[Value.ref b] below meth c H locs 117 2819 Q (F0 m 317 ls []) :=
  xl_case1 C0 (p0 := 317) (z1 := mi_57) (z2 := mi_128) hK hst hl hi hL (fun A a b c => xj_leave a b c (Nat.le_refl _) _) mh_57 (xa_pl 482 rfl rfl) (xa_pl 483 rfl rfl) (xa_pl 484 rfl rfl) (by decide +kernel) (by decide) (by decide) rfl mh_128 (xa_pl 878 rfl rfl) (xa_pl 879 rfl rfl) (xa_pl 880 rfl rfl) (by decide +kernel) (by decide) (by decide) rfl dl_317 dl_318 dl_319 dl_320 dl_321 dl_322 dl_323 dl_326 dl_327 dl_328 dl_329 dl_330 dl_331 dl_332 dl_335 (by decide) kk
set_option maxRecDepth 100000 in
theorem xlc_8 {p : Program} {l : Launch} {e : Env} {s : State} {m : MethodId} {below : List Frame} {meth : Method} {c : Code} {b L : Nat} {xs : Nat → Int32} (C0 : lw_At p s m meth c b L xs) {D : va_G} {cA : Nat → ClassId} {sa i : Nat} {M : xa_M} {H : Heap} {locs : List Loc} {Q : State → Prop} {ls : Array Slot}
    (hK : xa_K D cA s.heap.size s.heap sa s) (hst : xl_st s D cA sa M H locs) (hl : lv_has ls 4 (xl_lv b s.heap.size i)) (hi : i + 5 ≤ L) (hL : L ≤ 2560)
    (kk : ∀ (M2 : xa_M) (H2 : Heap) (L2 : List Loc), xl_st s D cA sa M2 H2 L2 → W p l e room_1 s m #[Value.ref b] below meth c H2 L2 117 2819 Q (F0 m 887 ls [])) : W p l e room_1 s m #[Value.ref b] below meth c H locs 117 2819 Q (F0 m 340 ls []) :=
  xl_case2 C0 (p0 := 340) (z1 := mi_58) (z2 := mi_129) hK hst hl hi hL (fun A a b c => xj_send a b c (Nat.le_refl _) _ _) mh_58 (xa_pl 490 rfl rfl) (xa_pl 491 rfl rfl) (xa_pl 492 rfl rfl) (by decide +kernel) (by decide) (by decide) rfl mh_129 (xa_pl 886 rfl rfl) (xa_pl 887 rfl rfl) (xa_pl 888 rfl rfl) (by decide +kernel) (by decide) (by decide) rfl dl_340 dl_341 dl_342 dl_343 dl_344 dl_345 dl_346 dl_347 dl_348 dl_349 dl_350 dl_351 dl_354 dl_355 dl_356 dl_357 dl_358 dl_359 dl_360 dl_361 dl_362 dl_363 dl_364 dl_365 dl_368 (by decide) kk
set_option maxRecDepth 100000 in
theorem xlc_9 {p : Program} {l : Launch} {e : Env} {s : State} {m : MethodId} {below : List Frame} {meth : Method} {c : Code} {b L : Nat} {xs : Nat → Int32} (C0 : lw_At p s m meth c b L xs) {D : va_G} {cA : Nat → ClassId} {sa i : Nat} {M : xa_M} {H : Heap} {locs : List Loc} {Q : State → Prop} {ls : Array Slot}
    (hK : xa_K D cA s.heap.size s.heap sa s) (hst : xl_st s D cA sa M H locs) (hl : lv_has ls 4 (xl_lv b s.heap.size i)) (hi : i + 5 ≤ L) (hL : L ≤ 2560)
    (kk : ∀ (M2 : xa_M) (H2 : Heap) (L2 : List Loc), xl_st s D cA sa M2 H2 L2 → W p l e room_1 s m #[Value.ref b] below meth c H2 L2 117 2819 Q (F0 m 887 ls [])) : W p l e room_1 s m #[Value.ref b] below meth c H locs 117 2819 Q (F0 m 373 ls []) :=
  xl_case1 C0 (p0 := 373) (z1 := mi_59) (z2 := mi_130) hK hst hl hi hL (fun A a b c => xj_pass a b c (Nat.le_refl _) _) mh_59 (xa_pl 494 rfl rfl) (xa_pl 495 rfl rfl) (xa_pl 496 rfl rfl) (by decide +kernel) (by decide) (by decide) rfl mh_130 (xa_pl 890 rfl rfl) (xa_pl 891 rfl rfl) (xa_pl 892 rfl rfl) (by decide +kernel) (by decide) (by decide) rfl dl_373 dl_374 dl_375 dl_376 dl_377 dl_378 dl_379 dl_382 dl_383 dl_384 dl_385 dl_386 dl_387 dl_388 dl_391 (by decide) kk
set_option maxRecDepth 100000 in
theorem xlc_10 {p : Program} {l : Launch} {e : Env} {s : State} {m : MethodId} {below : List Frame} {meth : Method} {c : Code} {b L : Nat} {xs : Nat → Int32} (C0 : lw_At p s m meth c b L xs) {D : va_G} {cA : Nat → ClassId} {sa i : Nat} {M : xa_M} {H : Heap} {locs : List Loc} {Q : State → Prop} {ls : Array Slot}
    (hK : xa_K D cA s.heap.size s.heap sa s) (hst : xl_st s D cA sa M H locs) (hl : lv_has ls 4 (xl_lv b s.heap.size i)) (hi : i + 5 ≤ L) (hL : L ≤ 2560)
    (kk : ∀ (M2 : xa_M) (H2 : Heap) (L2 : List Loc), xl_st s D cA sa M2 H2 L2 → W p l e room_1 s m #[Value.ref b] below meth c H2 L2 117 2819 Q (F0 m 887 ls [])) : W p l e room_1 s m #[Value.ref b] below meth c H locs 117 2819 Q (F0 m 396 ls []) :=
  xl_case0 C0 (p0 := 396) (z1 := mi_60) (z2 := mi_131) hK hst hl hi hL (fun A a b c => xj_undo a b c (Nat.le_refl _)) mh_60 (xa_pl 531 rfl rfl) (xa_pl 532 rfl rfl) (xa_pl 533 rfl rfl) (by decide +kernel) (by decide) (by decide) rfl mh_131 (xa_pl 919 rfl rfl) (xa_pl 920 rfl rfl) (xa_pl 921 rfl rfl) (by decide +kernel) (by decide) (by decide) rfl dl_396 dl_397 dl_400 dl_401 dl_404 (by decide) kk
set_option maxRecDepth 100000 in
theorem xlc_11 {p : Program} {l : Launch} {e : Env} {s : State} {m : MethodId} {below : List Frame} {meth : Method} {c : Code} {b L : Nat} {xs : Nat → Int32} (C0 : lw_At p s m meth c b L xs) {D : va_G} {cA : Nat → ClassId} {sa i : Nat} {M : xa_M} {H : Heap} {locs : List Loc} {Q : State → Prop} {ls : Array Slot}
    (hK : xa_K D cA s.heap.size s.heap sa s) (hst : xl_st s D cA sa M H locs) (hl : lv_has ls 4 (xl_lv b s.heap.size i)) (hi : i + 5 ≤ L) (hL : L ≤ 2560)
    (kk : ∀ (M2 : xa_M) (H2 : Heap) (L2 : List Loc), xl_st s D cA sa M2 H2 L2 → W p l e room_1 s m #[Value.ref b] below meth c H2 L2 117 2819 Q (F0 m 887 ls [])) : W p l e room_1 s m #[Value.ref b] below meth c H locs 117 2819 Q (F0 m 409 ls []) :=
  xl_case3 C0 (p0 := 409) (z1 := mi_61) (z2 := mi_134) hK hst hl hi hL (fun A a b c => xj_behind a b c (Nat.le_refl _) _ _ _) mh_61 (xa_pl 539 rfl rfl) (xa_pl 540 rfl rfl) (xa_pl 541 rfl rfl) (by decide +kernel) (by decide) (by decide) rfl mh_134 (xa_pl 923 rfl rfl) (xa_pl 924 rfl rfl) (xa_pl 925 rfl rfl) (by decide +kernel) (by decide) (by decide) rfl dl_409 dl_410 dl_411 dl_412 dl_413 dl_414 dl_415 dl_416 dl_417 dl_418 dl_419 dl_420 dl_421 dl_422 dl_423 dl_424 dl_425 dl_428 dl_429 dl_430 dl_431 dl_432 dl_433 dl_434 dl_435 dl_436 dl_437 dl_438 dl_439 dl_440 dl_441 dl_442 dl_443 dl_444 dl_447 (by decide) kk
set_option maxRecDepth 100000 in
theorem xlc_12 {p : Program} {l : Launch} {e : Env} {s : State} {m : MethodId} {below : List Frame} {meth : Method} {c : Code} {b L : Nat} {xs : Nat → Int32} (C0 : lw_At p s m meth c b L xs) {D : va_G} {cA : Nat → ClassId} {sa i : Nat} {M : xa_M} {H : Heap} {locs : List Loc} {Q : State → Prop} {ls : Array Slot}
    (hK : xa_K D cA s.heap.size s.heap sa s) (hst : xl_st s D cA sa M H locs) (hl : lv_has ls 4 (xl_lv b s.heap.size i)) (hi : i + 5 ≤ L) (hL : L ≤ 2560)
    (kk : ∀ (M2 : xa_M) (H2 : Heap) (L2 : List Loc), xl_st s D cA sa M2 H2 L2 → W p l e room_1 s m #[Value.ref b] below meth c H2 L2 117 2819 Q (F0 m 887 ls [])) : W p l e room_1 s m #[Value.ref b] below meth c H locs 117 2819 Q (F0 m 452 ls []) :=
  xl_case1 C0 (p0 := 452) (z1 := mi_62) (z2 := mi_135) hK hst hl hi hL (fun A a b c => xj_ends a b c (Nat.le_refl _) _) mh_62 (xa_pl 544 rfl rfl) (xa_pl 545 rfl rfl) (xa_pl 546 rfl rfl) (by decide +kernel) (by decide) (by decide) rfl mh_135 (xa_pl 936 rfl rfl) (xa_pl 937 rfl rfl) (xa_pl 938 rfl rfl) (by decide +kernel) (by decide) (by decide) rfl dl_452 dl_453 dl_454 dl_455 dl_456 dl_457 dl_458 dl_461 dl_462 dl_463 dl_464 dl_465 dl_466 dl_467 dl_470 (by decide) kk
set_option maxRecDepth 100000 in
theorem xlc_13 {p : Program} {l : Launch} {e : Env} {s : State} {m : MethodId} {below : List Frame} {meth : Method} {c : Code} {b L : Nat} {xs : Nat → Int32} (C0 : lw_At p s m meth c b L xs) {D : va_G} {cA : Nat → ClassId} {sa i : Nat} {M : xa_M} {H : Heap} {locs : List Loc} {Q : State → Prop} {ls : Array Slot}
    (hK : xa_K D cA s.heap.size s.heap sa s) (hst : xl_st s D cA sa M H locs) (hl : lv_has ls 4 (xl_lv b s.heap.size i)) (hi : i + 5 ≤ L) (hL : L ≤ 2560)
    (kk : ∀ (M2 : xa_M) (H2 : Heap) (L2 : List Loc), xl_st s D cA sa M2 H2 L2 → W p l e room_1 s m #[Value.ref b] below meth c H2 L2 117 2819 Q (F0 m 887 ls [])) : W p l e room_1 s m #[Value.ref b] below meth c H locs 117 2819 Q (F0 m 475 ls []) :=
  xl_case2 C0 (p0 := 475) (z1 := mi_63) (z2 := mi_137) hK hst hl hi hL (fun A a b c => xj_live a b c (Nat.le_refl _) _ _) mh_63 (xa_pl 553 rfl rfl) (xa_pl 554 rfl rfl) (xa_pl 555 rfl rfl) (by decide +kernel) (by decide) (by decide) rfl mh_137 (xa_pl 940 rfl rfl) (xa_pl 941 rfl rfl) (xa_pl 942 rfl rfl) (by decide +kernel) (by decide) (by decide) rfl dl_475 dl_476 dl_477 dl_478 dl_479 dl_480 dl_481 dl_482 dl_483 dl_484 dl_485 dl_486 dl_489 dl_490 dl_491 dl_492 dl_493 dl_494 dl_495 dl_496 dl_497 dl_498 dl_499 dl_500 dl_503 (by decide) kk
set_option maxRecDepth 100000 in
theorem xlc_14 {p : Program} {l : Launch} {e : Env} {s : State} {m : MethodId} {below : List Frame} {meth : Method} {c : Code} {b L : Nat} {xs : Nat → Int32} (C0 : lw_At p s m meth c b L xs) {D : va_G} {cA : Nat → ClassId} {sa i : Nat} {M : xa_M} {H : Heap} {locs : List Loc} {Q : State → Prop} {ls : Array Slot}
    (hK : xa_K D cA s.heap.size s.heap sa s) (hst : xl_st s D cA sa M H locs) (hl : lv_has ls 4 (xl_lv b s.heap.size i)) (hi : i + 5 ≤ L) (hL : L ≤ 2560)
    (kk : ∀ (M2 : xa_M) (H2 : Heap) (L2 : List Loc), xl_st s D cA sa M2 H2 L2 → W p l e room_1 s m #[Value.ref b] below meth c H2 L2 117 2819 Q (F0 m 887 ls [])) : W p l e room_1 s m #[Value.ref b] below meth c H locs 117 2819 Q (F0 m 508 ls []) :=
  xl_case2 C0 (p0 := 508) (z1 := mi_64) (z2 := mi_140) hK hst hl hi hL (fun A a b c => xj_way a b c (Nat.le_refl _) _ _) mh_64 (xa_pl 561 rfl rfl) (xa_pl 562 rfl rfl) (xa_pl 563 rfl rfl) (by decide +kernel) (by decide) (by decide) rfl mh_140 (xa_pl 948 rfl rfl) (xa_pl 949 rfl rfl) (xa_pl 950 rfl rfl) (by decide +kernel) (by decide) (by decide) rfl dl_508 dl_509 dl_510 dl_511 dl_512 dl_513 dl_514 dl_515 dl_516 dl_517 dl_518 dl_519 dl_522 dl_523 dl_524 dl_525 dl_526 dl_527 dl_528 dl_529 dl_530 dl_531 dl_532 dl_533 dl_536 (by decide) kk
set_option maxRecDepth 100000 in
theorem xlc_15 {p : Program} {l : Launch} {e : Env} {s : State} {m : MethodId} {below : List Frame} {meth : Method} {c : Code} {b L : Nat} {xs : Nat → Int32} (C0 : lw_At p s m meth c b L xs) {D : va_G} {cA : Nat → ClassId} {sa i : Nat} {M : xa_M} {H : Heap} {locs : List Loc} {Q : State → Prop} {ls : Array Slot}
    (hK : xa_K D cA s.heap.size s.heap sa s) (hst : xl_st s D cA sa M H locs) (hl : lv_has ls 4 (xl_lv b s.heap.size i)) (hi : i + 5 ≤ L) (hL : L ≤ 2560)
    (kk : ∀ (M2 : xa_M) (H2 : Heap) (L2 : List Loc), xl_st s D cA sa M2 H2 L2 → W p l e room_1 s m #[Value.ref b] below meth c H2 L2 117 2819 Q (F0 m 887 ls [])) : W p l e room_1 s m #[Value.ref b] below meth c H locs 117 2819 Q (F0 m 541 ls []) :=
  xl_case2 C0 (p0 := 541) (z1 := mi_65) (z2 := mi_141) hK hst hl hi hL (fun A a b c => xj_hunt a b c (Nat.le_refl _) _ _) mh_65 (xa_pl 594 rfl rfl) (xa_pl 595 rfl rfl) (xa_pl 596 rfl rfl) (by decide +kernel) (by decide) (by decide) rfl mh_141 (xa_pl 959 rfl rfl) (xa_pl 960 rfl rfl) (xa_pl 961 rfl rfl) (by decide +kernel) (by decide) (by decide) rfl dl_541 dl_542 dl_543 dl_544 dl_545 dl_546 dl_547 dl_548 dl_549 dl_550 dl_551 dl_552 dl_555 dl_556 dl_557 dl_558 dl_559 dl_560 dl_561 dl_562 dl_563 dl_564 dl_565 dl_566 dl_569 (by decide) kk
set_option maxRecDepth 100000 in
theorem xlc_16 {p : Program} {l : Launch} {e : Env} {s : State} {m : MethodId} {below : List Frame} {meth : Method} {c : Code} {b L : Nat} {xs : Nat → Int32} (C0 : lw_At p s m meth c b L xs) {D : va_G} {cA : Nat → ClassId} {sa i : Nat} {M : xa_M} {H : Heap} {locs : List Loc} {Q : State → Prop} {ls : Array Slot}
    (hK : xa_K D cA s.heap.size s.heap sa s) (hst : xl_st s D cA sa M H locs) (hl : lv_has ls 4 (xl_lv b s.heap.size i)) (hi : i + 5 ≤ L) (hL : L ≤ 2560)
    (kk : ∀ (M2 : xa_M) (H2 : Heap) (L2 : List Loc), xl_st s D cA sa M2 H2 L2 → W p l e room_1 s m #[Value.ref b] below meth c H2 L2 117 2819 Q (F0 m 887 ls [])) : W p l e room_1 s m #[Value.ref b] below meth c H locs 117 2819 Q (F0 m 574 ls []) :=
  xl_case2 C0 (p0 := 574) (z1 := mi_66) (z2 := mi_144) hK hst hl hi hL (fun A a b c => xj_proof a b c (Nat.le_refl _) _ _) mh_66 (xa_pl 603 rfl rfl) (xa_pl 604 rfl rfl) (xa_pl 605 rfl rfl) (by decide +kernel) (by decide) (by decide) rfl mh_144 (xa_pl 963 rfl rfl) (xa_pl 964 rfl rfl) (xa_pl 965 rfl rfl) (by decide +kernel) (by decide) (by decide) rfl dl_574 dl_575 dl_576 dl_577 dl_578 dl_579 dl_580 dl_581 dl_582 dl_583 dl_584 dl_585 dl_588 dl_589 dl_590 dl_591 dl_592 dl_593 dl_594 dl_595 dl_596 dl_597 dl_598 dl_599 dl_602 (by decide) kk
set_option maxRecDepth 100000 in
theorem xlc_17 {p : Program} {l : Launch} {e : Env} {s : State} {m : MethodId} {below : List Frame} {meth : Method} {c : Code} {b L : Nat} {xs : Nat → Int32} (C0 : lw_At p s m meth c b L xs) {D : va_G} {cA : Nat → ClassId} {sa i : Nat} {M : xa_M} {H : Heap} {locs : List Loc} {Q : State → Prop} {ls : Array Slot}
    (hK : xa_K D cA s.heap.size s.heap sa s) (hst : xl_st s D cA sa M H locs) (hl : lv_has ls 4 (xl_lv b s.heap.size i)) (hi : i + 5 ≤ L) (hL : L ≤ 2560)
    (kk : ∀ (M2 : xa_M) (H2 : Heap) (L2 : List Loc), xl_st s D cA sa M2 H2 L2 → W p l e room_1 s m #[Value.ref b] below meth c H2 L2 117 2819 Q (F0 m 887 ls [])) : W p l e room_1 s m #[Value.ref b] below meth c H locs 117 2819 Q (F0 m 607 ls []) :=
  xl_case2 C0 (p0 := 607) (z1 := mi_67) (z2 := mi_145) hK hst hl hi hL (fun A a b c => xj_gap a b c (Nat.le_refl _) _ _) mh_67 (xa_pl 615 rfl rfl) (xa_pl 616 rfl rfl) (xa_pl 617 rfl rfl) (by decide +kernel) (by decide) (by decide) rfl mh_145 (xa_pl 975 rfl rfl) (xa_pl 976 rfl rfl) (xa_pl 977 rfl rfl) (by decide +kernel) (by decide) (by decide) rfl dl_607 dl_608 dl_609 dl_610 dl_611 dl_612 dl_613 dl_614 dl_615 dl_616 dl_617 dl_618 dl_621 dl_622 dl_623 dl_624 dl_625 dl_626 dl_627 dl_628 dl_629 dl_630 dl_631 dl_632 dl_635 (by decide) kk
set_option maxRecDepth 100000 in
theorem xlc_18 {p : Program} {l : Launch} {e : Env} {s : State} {m : MethodId} {below : List Frame} {meth : Method} {c : Code} {b L : Nat} {xs : Nat → Int32} (C0 : lw_At p s m meth c b L xs) {D : va_G} {cA : Nat → ClassId} {sa i : Nat} {M : xa_M} {H : Heap} {locs : List Loc} {Q : State → Prop} {ls : Array Slot}
    (hK : xa_K D cA s.heap.size s.heap sa s) (hst : xl_st s D cA sa M H locs) (hl : lv_has ls 4 (xl_lv b s.heap.size i)) (hi : i + 5 ≤ L) (hL : L ≤ 2560)
    (kk : ∀ (M2 : xa_M) (H2 : Heap) (L2 : List Loc), xl_st s D cA sa M2 H2 L2 → W p l e room_1 s m #[Value.ref b] below meth c H2 L2 117 2819 Q (F0 m 887 ls [])) : W p l e room_1 s m #[Value.ref b] below meth c H locs 117 2819 Q (F0 m 640 ls []) :=
  xl_case3 C0 (p0 := 640) (z1 := mi_68) (z2 := mi_146) hK hst hl hi hL (fun A a b c => xj_seen a b c (Nat.le_refl _) _ _ _) mh_68 (xa_pl 619 rfl rfl) (xa_pl 620 rfl rfl) (xa_pl 621 rfl rfl) (by decide +kernel) (by decide) (by decide) rfl mh_146 (xa_pl 979 rfl rfl) (xa_pl 980 rfl rfl) (xa_pl 981 rfl rfl) (by decide +kernel) (by decide) (by decide) rfl dl_640 dl_641 dl_642 dl_643 dl_644 dl_645 dl_646 dl_647 dl_648 dl_649 dl_650 dl_651 dl_652 dl_653 dl_654 dl_655 dl_656 dl_659 dl_660 dl_661 dl_662 dl_663 dl_664 dl_665 dl_666 dl_667 dl_668 dl_669 dl_670 dl_671 dl_672 dl_673 dl_674 dl_675 dl_678 (by decide) kk
set_option maxRecDepth 100000 in
theorem xlc_19 {p : Program} {l : Launch} {e : Env} {s : State} {m : MethodId} {below : List Frame} {meth : Method} {c : Code} {b L : Nat} {xs : Nat → Int32} (C0 : lw_At p s m meth c b L xs) {D : va_G} {cA : Nat → ClassId} {sa i : Nat} {M : xa_M} {H : Heap} {locs : List Loc} {Q : State → Prop} {ls : Array Slot}
    (hK : xa_K D cA s.heap.size s.heap sa s) (hst : xl_st s D cA sa M H locs) (hl : lv_has ls 4 (xl_lv b s.heap.size i)) (hi : i + 5 ≤ L) (hL : L ≤ 2560)
    (kk : ∀ (M2 : xa_M) (H2 : Heap) (L2 : List Loc), xl_st s D cA sa M2 H2 L2 → W p l e room_1 s m #[Value.ref b] below meth c H2 L2 117 2819 Q (F0 m 887 ls [])) : W p l e room_1 s m #[Value.ref b] below meth c H locs 117 2819 Q (F0 m 683 ls []) :=
  xl_case0 C0 (p0 := 683) (z1 := mi_69) (z2 := mi_147) hK hst hl hi hL (fun A a b c => xj_forget a b c (Nat.le_refl _)) mh_69 (xa_pl 627 rfl rfl) (xa_pl 628 rfl rfl) (xa_pl 629 rfl rfl) (by decide +kernel) (by decide) (by decide) rfl mh_147 (xa_pl 984 rfl rfl) (xa_pl 985 rfl rfl) (xa_pl 986 rfl rfl) (by decide +kernel) (by decide) (by decide) rfl dl_683 dl_684 dl_687 dl_688 dl_691 (by decide) kk
set_option maxRecDepth 100000 in
theorem xlc_20 {p : Program} {l : Launch} {e : Env} {s : State} {m : MethodId} {below : List Frame} {meth : Method} {c : Code} {b L : Nat} {xs : Nat → Int32} (C0 : lw_At p s m meth c b L xs) {D : va_G} {cA : Nat → ClassId} {sa i : Nat} {M : xa_M} {H : Heap} {locs : List Loc} {Q : State → Prop} {ls : Array Slot}
    (hK : xa_K D cA s.heap.size s.heap sa s) (hst : xl_st s D cA sa M H locs) (hl : lv_has ls 4 (xl_lv b s.heap.size i)) (hi : i + 5 ≤ L) (hL : L ≤ 2560)
    (kk : ∀ (M2 : xa_M) (H2 : Heap) (L2 : List Loc), xl_st s D cA sa M2 H2 L2 → W p l e room_1 s m #[Value.ref b] below meth c H2 L2 117 2819 Q (F0 m 887 ls [])) : W p l e room_1 s m #[Value.ref b] below meth c H locs 117 2819 Q (F0 m 696 ls []) :=
  xl_case1 C0 (p0 := 696) (z1 := mi_70) (z2 := mi_149) hK hst hl hi hL (fun A a b c => xj_lords a b c (Nat.le_refl _) _) mh_70 (xa_pl 631 rfl rfl) (xa_pl 632 rfl rfl) (xa_pl 633 rfl rfl) (by decide +kernel) (by decide) (by decide) rfl mh_149 (xa_pl 988 rfl rfl) (xa_pl 989 rfl rfl) (xa_pl 990 rfl rfl) (by decide +kernel) (by decide) (by decide) rfl dl_696 dl_697 dl_698 dl_699 dl_700 dl_701 dl_702 dl_705 dl_706 dl_707 dl_708 dl_709 dl_710 dl_711 dl_714 (by decide) kk
set_option maxRecDepth 100000 in
theorem xlc_21 {p : Program} {l : Launch} {e : Env} {s : State} {m : MethodId} {below : List Frame} {meth : Method} {c : Code} {b L : Nat} {xs : Nat → Int32} (C0 : lw_At p s m meth c b L xs) {D : va_G} {cA : Nat → ClassId} {sa i : Nat} {M : xa_M} {H : Heap} {locs : List Loc} {Q : State → Prop} {ls : Array Slot}
    (hK : xa_K D cA s.heap.size s.heap sa s) (hst : xl_st s D cA sa M H locs) (hl : lv_has ls 4 (xl_lv b s.heap.size i)) (hi : i + 5 ≤ L) (hL : L ≤ 2560)
    (kk : ∀ (M2 : xa_M) (H2 : Heap) (L2 : List Loc), xl_st s D cA sa M2 H2 L2 → W p l e room_1 s m #[Value.ref b] below meth c H2 L2 117 2819 Q (F0 m 887 ls [])) : W p l e room_1 s m #[Value.ref b] below meth c H locs 117 2819 Q (F0 m 719 ls []) :=
  xl_case1 C0 (p0 := 719) (z1 := mi_71) (z2 := mi_151) hK hst hl hi hL (fun A a b c => xj_leap a b c (Nat.le_refl _) _) mh_71 (xa_pl 643 rfl rfl) (xa_pl 644 rfl rfl) (xa_pl 645 rfl rfl) (by decide +kernel) (by decide) (by decide) rfl mh_151 (xa_pl 996 rfl rfl) (xa_pl 997 rfl rfl) (xa_pl 998 rfl rfl) (by decide +kernel) (by decide) (by decide) rfl dl_719 dl_720 dl_721 dl_722 dl_723 dl_724 dl_725 dl_728 dl_729 dl_730 dl_731 dl_732 dl_733 dl_734 dl_737 (by decide) kk
set_option maxRecDepth 100000 in
theorem xlc_22 {p : Program} {l : Launch} {e : Env} {s : State} {m : MethodId} {below : List Frame} {meth : Method} {c : Code} {b L : Nat} {xs : Nat → Int32} (C0 : lw_At p s m meth c b L xs) {D : va_G} {cA : Nat → ClassId} {sa i : Nat} {M : xa_M} {H : Heap} {locs : List Loc} {Q : State → Prop} {ls : Array Slot}
    (hK : xa_K D cA s.heap.size s.heap sa s) (hst : xl_st s D cA sa M H locs) (hl : lv_has ls 4 (xl_lv b s.heap.size i)) (hi : i + 5 ≤ L) (hL : L ≤ 2560)
    (kk : ∀ (M2 : xa_M) (H2 : Heap) (L2 : List Loc), xl_st s D cA sa M2 H2 L2 → W p l e room_1 s m #[Value.ref b] below meth c H2 L2 117 2819 Q (F0 m 887 ls [])) : W p l e room_1 s m #[Value.ref b] below meth c H locs 117 2819 Q (F0 m 742 ls []) :=
  xl_case4 C0 (p0 := 742) (z1 := mi_72) (z2 := mi_152) hK hst hl hi hL (fun A a b c => xj_sure a b c (Nat.le_refl _) _ _ _ _) mh_72 (xa_pl 651 rfl rfl) (xa_pl 652 rfl rfl) (xa_pl 653 rfl rfl) (by decide +kernel) (by decide) (by decide) rfl mh_152 (xa_pl 1004 rfl rfl) (xa_pl 1005 rfl rfl) (xa_pl 1006 rfl rfl) (by decide +kernel) (by decide) (by decide) rfl dl_742 dl_743 dl_744 dl_745 dl_746 dl_747 dl_748 dl_749 dl_750 dl_751 dl_752 dl_753 dl_754 dl_755 dl_756 dl_757 dl_758 dl_759 dl_760 dl_761 dl_762 dl_763 dl_766 dl_767 dl_768 dl_769 dl_770 dl_771 dl_772 dl_773 dl_774 dl_775 dl_776 dl_777 dl_778 dl_779 dl_780 dl_781 dl_782 dl_783 dl_784 dl_785 dl_786 dl_787 dl_790 (by decide) kk
set_option maxRecDepth 100000 in
theorem xlc_23 {p : Program} {l : Launch} {e : Env} {s : State} {m : MethodId} {below : List Frame} {meth : Method} {c : Code} {b L : Nat} {xs : Nat → Int32} (C0 : lw_At p s m meth c b L xs) {D : va_G} {cA : Nat → ClassId} {sa i : Nat} {M : xa_M} {H : Heap} {locs : List Loc} {Q : State → Prop} {ls : Array Slot}
    (hK : xa_K D cA s.heap.size s.heap sa s) (hst : xl_st s D cA sa M H locs) (hl : lv_has ls 4 (xl_lv b s.heap.size i)) (hi : i + 5 ≤ L) (hL : L ≤ 2560)
    (kk : ∀ (M2 : xa_M) (H2 : Heap) (L2 : List Loc), xl_st s D cA sa M2 H2 L2 → W p l e room_1 s m #[Value.ref b] below meth c H2 L2 117 2819 Q (F0 m 887 ls [])) : W p l e room_1 s m #[Value.ref b] below meth c H locs 117 2819 Q (F0 m 795 ls []) :=
  xl_case3 C0 (p0 := 795) (z1 := mi_73) (z2 := mi_153) hK hst hl hi hL (fun A a b c => xj_year a b c (Nat.le_refl _) _ _ _) mh_73 (xa_pl 661 rfl rfl) (xa_pl 662 rfl rfl) (xa_pl 663 rfl rfl) (by decide +kernel) (by decide) (by decide) rfl mh_153 (xa_pl 1010 rfl rfl) (xa_pl 1011 rfl rfl) (xa_pl 1012 rfl rfl) (by decide +kernel) (by decide) (by decide) rfl dl_795 dl_796 dl_797 dl_798 dl_799 dl_800 dl_801 dl_802 dl_803 dl_804 dl_805 dl_806 dl_807 dl_808 dl_809 dl_810 dl_811 dl_814 dl_815 dl_816 dl_817 dl_818 dl_819 dl_820 dl_821 dl_822 dl_823 dl_824 dl_825 dl_826 dl_827 dl_828 dl_829 dl_830 dl_833 (by decide) kk
set_option maxRecDepth 100000 in
theorem xlc_24 {p : Program} {l : Launch} {e : Env} {s : State} {m : MethodId} {below : List Frame} {meth : Method} {c : Code} {b L : Nat} {xs : Nat → Int32} (C0 : lw_At p s m meth c b L xs) {D : va_G} {cA : Nat → ClassId} {sa i : Nat} {M : xa_M} {H : Heap} {locs : List Loc} {Q : State → Prop} {ls : Array Slot}
    (hK : xa_K D cA s.heap.size s.heap sa s) (hst : xl_st s D cA sa M H locs) (hl : lv_has ls 4 (xl_lv b s.heap.size i)) (hi : i + 5 ≤ L) (hL : L ≤ 2560)
    (kk : ∀ (M2 : xa_M) (H2 : Heap) (L2 : List Loc), xl_st s D cA sa M2 H2 L2 → W p l e room_1 s m #[Value.ref b] below meth c H2 L2 117 2819 Q (F0 m 887 ls [])) : W p l e room_1 s m #[Value.ref b] below meth c H locs 117 2819 Q (F0 m 838 ls []) :=
  xl_case0 C0 (p0 := 838) (z1 := mi_74) (z2 := mi_154) hK hst hl hi hL (fun A a b c => xj_keep a b c (Nat.le_refl _)) mh_74 (xa_pl 677 rfl rfl) (xa_pl 678 rfl rfl) (xa_pl 679 rfl rfl) (by decide +kernel) (by decide) (by decide) rfl mh_154 (xa_pl 1018 rfl rfl) (xa_pl 1019 rfl rfl) (xa_pl 1020 rfl rfl) (by decide +kernel) (by decide) (by decide) rfl dl_838 dl_839 dl_842 dl_843 dl_846 (by decide) kk
set_option maxRecDepth 100000 in
theorem xlc_25 {p : Program} {l : Launch} {e : Env} {s : State} {m : MethodId} {below : List Frame} {meth : Method} {c : Code} {b L : Nat} {xs : Nat → Int32} (C0 : lw_At p s m meth c b L xs) {D : va_G} {cA : Nat → ClassId} {sa i : Nat} {M : xa_M} {H : Heap} {locs : List Loc} {Q : State → Prop} {ls : Array Slot}
    (hK : xa_K D cA s.heap.size s.heap sa s) (hst : xl_st s D cA sa M H locs) (hl : lv_has ls 4 (xl_lv b s.heap.size i)) (hi : i + 5 ≤ L) (hL : L ≤ 2560)
    (kk : ∀ (M2 : xa_M) (H2 : Heap) (L2 : List Loc), xl_st s D cA sa M2 H2 L2 → W p l e room_1 s m #[Value.ref b] below meth c H2 L2 117 2819 Q (F0 m 887 ls [])) : W p l e room_1 s m #[Value.ref b] below meth c H locs 117 2819 Q (F0 m 851 ls []) :=
  xl_case0 C0 (p0 := 851) (z1 := mi_75) (z2 := mi_155) hK hst hl hi hL (fun A a b c => xj_back a b c (Nat.le_refl _)) mh_75 (xa_pl 681 rfl rfl) (xa_pl 682 rfl rfl) (xa_pl 683 rfl rfl) (by decide +kernel) (by decide) (by decide) rfl mh_155 (xa_pl 1022 rfl rfl) (xa_pl 1023 rfl rfl) (xa_pl 1024 rfl rfl) (by decide +kernel) (by decide) (by decide) rfl dl_851 dl_852 dl_855 dl_856 dl_859 (by decide) kk
set_option maxRecDepth 100000 in
theorem xlc_26 {p : Program} {l : Launch} {e : Env} {s : State} {m : MethodId} {below : List Frame} {meth : Method} {c : Code} {b L : Nat} {xs : Nat → Int32} (C0 : lw_At p s m meth c b L xs) {D : va_G} {cA : Nat → ClassId} {sa i : Nat} {M : xa_M} {H : Heap} {locs : List Loc} {Q : State → Prop} {ls : Array Slot}
    (hK : xa_K D cA s.heap.size s.heap sa s) (hst : xl_st s D cA sa M H locs) (hl : lv_has ls 4 (xl_lv b s.heap.size i)) (hi : i + 5 ≤ L) (hL : L ≤ 2560)
    (kk : ∀ (M2 : xa_M) (H2 : Heap) (L2 : List Loc), xl_st s D cA sa M2 H2 L2 → W p l e room_1 s m #[Value.ref b] below meth c H2 L2 117 2819 Q (F0 m 887 ls [])) : W p l e room_1 s m #[Value.ref b] below meth c H locs 117 2819 Q (F0 m 864 ls []) :=
  xl_case1 C0 (p0 := 864) (z1 := mi_76) (z2 := mi_156) hK hst hl hi hL (fun A a b c => xj_count a b c (Nat.le_refl _) _) mh_76 (xa_pl 685 rfl rfl) (xa_pl 686 rfl rfl) (xa_pl 687 rfl rfl) (by decide +kernel) (by decide) (by decide) rfl mh_156 (xa_pl 1026 rfl rfl) (xa_pl 1027 rfl rfl) (xa_pl 1028 rfl rfl) (by decide +kernel) (by decide) (by decide) rfl dl_864 dl_865 dl_866 dl_867 dl_868 dl_869 dl_870 dl_873 dl_874 dl_875 dl_876 dl_877 dl_878 dl_879 dl_882 (by decide) kk
theorem xl_gt {L i : Nat} (hL : L ≤ 2560) (hi : i ≤ L) (h : ¬ Int32.ofNat L - nI 5 < nI i) : i + 5 ≤ L := by
  rcases Nat.lt_or_ge (i + 4) L with q | q
  · omega
  · exfalso
    apply h
    have e1 : (Int32.ofNat L).toInt = (L : Int) := nI_toInt (by omega)
    have e2 : (nI 5).toInt = 5 := by decide
    have e3 : (nI i).toInt = (i : Int) := nI_toInt (by omega)
    rw [Int32.lt_iff_toInt_lt, Int32.toInt_sub, e1, e2, e3, Int.bmod_eq_of_le (by omega) (by omega)]
    omega
set_option maxRecDepth 100000 in
set_option maxHeartbeats 4000000 in
theorem xl_loop {p : Program} {l : Launch} {e : Env} {s : State} {m : MethodId} {below : List Frame} {meth : Method} {c : Code} {b L : Nat} {xs : Nat → Int32} (C0 : lw_At p s m meth c b L xs) {D : va_G} {cA : Nat → ClassId} {sa : Nat} (hL : L ≤ 2560) (hK : xa_K D cA s.heap.size s.heap sa s) :
    ∀ (n i : Nat), i ≤ L → L + 1 ≤ i + n → ∀ (M : xa_M) (H : Heap) (locs : List Loc), xl_st s D cA sa M H locs → ∀ ls : Array Slot, lv_has ls 4 (xl_lv b s.heap.size i) → W p l e room_1 s m #[Value.ref b] below meth c H locs 117 2819 (lw_Z below #[Value.ref b] s) (F0 m 18 ls []) := by
  obtain ⟨hx, hbc, hr, hml, hown, hts, hX, hbl, hlocks, hgv⟩ := id C0
  have hbA : ¬ (fun q : Nat => s.heap.size ≤ q) b := Nat.not_le.mpr hbl
  intro n
  induction n with
  | zero =>
    intro i h1 h2
    exact absurd h2 (by omega)
  | succ n ih =>
    intro i hi hin M H locs hst ls hl
    have hS : va_S (fun q : Nat => s.heap.size ≤ q) s.heap H locs := by
      obtain ⟨A, hA, hB, iA, hR, hsa, hlo⟩ := hst
      exact xl_S hR hlo
    refine lv_iload_n hx hbc dl_18 rfl (lv_at hl 3 rfl) ?_
    refine lv_aload_n hx hbc dl_19 rfl (lv_at hl 0 rfl) ?_
    refine va_slen hx hbc hX hbl hbA hS dl_20 ?_
    refine lv_iconst (v := nI 5) hx hbc dl_21 (by decide) ?_
    refine lv_isub hx hbc dl_22 ?_
    refine lv_icmp_gt (tgt := 893) hx hbc dl_23 (by decide) (fun _ => ?_) (fun c0 => ?_)
    · refine lv_iconst (v := 1) hx hbc dl_893 (by decide) ?_
      refine va_forget (fun q hq => hS.2.2 q hq) ?_
      refine W.widen (k := 600000) (n := 7302250) (by decide) (by decide) ?_
      exact lw_ret hx hbc hr hlocks dl_894
    · have h5 : i + 5 ≤ L := xl_gt hL hi c0
      have kk : ∀ (M2 : xa_M) (H2 : Heap) (L2 : List Loc), xl_st s D cA sa M2 H2 L2 → W p l e room_1 s m #[Value.ref b] below meth c H2 L2 117 2819 (lw_Z below #[Value.ref b] s) (F0 m 887 ls []) := by
        intro M2 H2 L2 hst2
        refine lv_iinc (v := nI (i + 5)) (lv' := [(3, .int (nI (i + 5))), (0, .ref b), (1, .ref s.heap.size), (2, .ref (s.heap.size + 107))]) hx hbc dl_887 hl (k := 3) rfl (by rw [← nI_add]; rfl) (by decide) rfl (fun ls hl => ?_)
        refine lv_goto (tgt := 18) hx hbc dl_890 (by decide) ?_
        exact ih (i + 5) h5 (by omega) M2 H2 L2 hst2 ls (lv_sub hl [1, 2, 3, 0] rfl)
      have in0 : vp_in (nI i) L := vp_in_nI (by omega) (by omega)
      refine lv_aload_n hx hbc dl_26 rfl (lv_at hl 0 rfl) ?_
      refine lv_iload_n hx hbc dl_27 rfl (lv_at hl 3 rfl) ?_
      refine va_sld hx hbc hX hbl hbA hS in0 dl_28 ?_
      refine lv_bipush (v := nI 31) hx hbc dl_29 (by decide) ?_
      refine lv_iand hx hbc dl_31 ?_
      generalize xs (nI i).toNatClampNeg &&& nI 31 = y
      by_cases ho : y.toInt < 0 ∨ (26 : Int) < y.toInt
      · exact lv_tableOut (tgt := 887) hx hbc dl_32 ho (by decide) (kk M H locs hst)
      · have h1 : ¬ y.toInt < 0 := fun q => ho (Or.inl q)
        have h2 : ¬ (26 : Int) < y.toInt := fun q => ho (Or.inr q)
        rcases (show y.toInt = 0 ∨ y.toInt = 1 ∨ y.toInt = 2 ∨ y.toInt = 3 ∨ y.toInt = 4 ∨ y.toInt = 5 ∨ y.toInt = 6 ∨ y.toInt = 7 ∨ y.toInt = 8 ∨ y.toInt = 9 ∨ y.toInt = 10 ∨ y.toInt = 11 ∨ y.toInt = 12 ∨ y.toInt = 13 ∨ y.toInt = 14 ∨ y.toInt = 15 ∨ y.toInt = 16 ∨ y.toInt = 17 ∨ y.toInt = 18 ∨ y.toInt = 19 ∨ y.toInt = 20 ∨ y.toInt = 21 ∨ y.toInt = 22 ∨ y.toInt = 23 ∨ y.toInt = 24 ∨ y.toInt = 25 ∨ y.toInt = 26 by omega) with q | q | q | q | q | q | q | q | q | q | q | q | q | q | q | q | q | q | q | q | q | q | q | q | q | q | q
        · exact lv_tableIn (off := 124) (tgt := 156) hx hbc dl_32 h1 h2 (by rw [q]; rfl) (by decide) (xlc_0 C0 hK hst hl h5 hL kk)
        · exact lv_tableIn (off := 147) (tgt := 179) hx hbc dl_32 h1 h2 (by rw [q]; rfl) (by decide) (xlc_1 C0 hK hst hl h5 hL kk)
        · exact lv_tableIn (off := 160) (tgt := 192) hx hbc dl_32 h1 h2 (by rw [q]; rfl) (by decide) (xlc_2 C0 hK hst hl h5 hL kk)
        · exact lv_tableIn (off := 173) (tgt := 205) hx hbc dl_32 h1 h2 (by rw [q]; rfl) (by decide) (xlc_3 C0 hK hst hl h5 hL kk)
        · exact lv_tableIn (off := 186) (tgt := 218) hx hbc dl_32 h1 h2 (by rw [q]; rfl) (by decide) (xlc_4 C0 hK hst hl h5 hL kk)
        · exact lv_tableIn (off := 219) (tgt := 251) hx hbc dl_32 h1 h2 (by rw [q]; rfl) (by decide) (xlc_5 C0 hK hst hl h5 hL kk)
        · exact lv_tableIn (off := 252) (tgt := 284) hx hbc dl_32 h1 h2 (by rw [q]; rfl) (by decide) (xlc_6 C0 hK hst hl h5 hL kk)
        · exact lv_tableIn (off := 285) (tgt := 317) hx hbc dl_32 h1 h2 (by rw [q]; rfl) (by decide) (xlc_7 C0 hK hst hl h5 hL kk)
        · exact lv_tableIn (off := 308) (tgt := 340) hx hbc dl_32 h1 h2 (by rw [q]; rfl) (by decide) (xlc_8 C0 hK hst hl h5 hL kk)
        · exact lv_tableIn (off := 341) (tgt := 373) hx hbc dl_32 h1 h2 (by rw [q]; rfl) (by decide) (xlc_9 C0 hK hst hl h5 hL kk)
        · exact lv_tableIn (off := 364) (tgt := 396) hx hbc dl_32 h1 h2 (by rw [q]; rfl) (by decide) (xlc_10 C0 hK hst hl h5 hL kk)
        · exact lv_tableIn (off := 377) (tgt := 409) hx hbc dl_32 h1 h2 (by rw [q]; rfl) (by decide) (xlc_11 C0 hK hst hl h5 hL kk)
        · exact lv_tableIn (off := 420) (tgt := 452) hx hbc dl_32 h1 h2 (by rw [q]; rfl) (by decide) (xlc_12 C0 hK hst hl h5 hL kk)
        · exact lv_tableIn (off := 443) (tgt := 475) hx hbc dl_32 h1 h2 (by rw [q]; rfl) (by decide) (xlc_13 C0 hK hst hl h5 hL kk)
        · exact lv_tableIn (off := 476) (tgt := 508) hx hbc dl_32 h1 h2 (by rw [q]; rfl) (by decide) (xlc_14 C0 hK hst hl h5 hL kk)
        · exact lv_tableIn (off := 509) (tgt := 541) hx hbc dl_32 h1 h2 (by rw [q]; rfl) (by decide) (xlc_15 C0 hK hst hl h5 hL kk)
        · exact lv_tableIn (off := 542) (tgt := 574) hx hbc dl_32 h1 h2 (by rw [q]; rfl) (by decide) (xlc_16 C0 hK hst hl h5 hL kk)
        · exact lv_tableIn (off := 575) (tgt := 607) hx hbc dl_32 h1 h2 (by rw [q]; rfl) (by decide) (xlc_17 C0 hK hst hl h5 hL kk)
        · exact lv_tableIn (off := 608) (tgt := 640) hx hbc dl_32 h1 h2 (by rw [q]; rfl) (by decide) (xlc_18 C0 hK hst hl h5 hL kk)
        · exact lv_tableIn (off := 651) (tgt := 683) hx hbc dl_32 h1 h2 (by rw [q]; rfl) (by decide) (xlc_19 C0 hK hst hl h5 hL kk)
        · exact lv_tableIn (off := 664) (tgt := 696) hx hbc dl_32 h1 h2 (by rw [q]; rfl) (by decide) (xlc_20 C0 hK hst hl h5 hL kk)
        · exact lv_tableIn (off := 687) (tgt := 719) hx hbc dl_32 h1 h2 (by rw [q]; rfl) (by decide) (xlc_21 C0 hK hst hl h5 hL kk)
        · exact lv_tableIn (off := 710) (tgt := 742) hx hbc dl_32 h1 h2 (by rw [q]; rfl) (by decide) (xlc_22 C0 hK hst hl h5 hL kk)
        · exact lv_tableIn (off := 763) (tgt := 795) hx hbc dl_32 h1 h2 (by rw [q]; rfl) (by decide) (xlc_23 C0 hK hst hl h5 hL kk)
        · exact lv_tableIn (off := 806) (tgt := 838) hx hbc dl_32 h1 h2 (by rw [q]; rfl) (by decide) (xlc_24 C0 hK hst hl h5 hL kk)
        · exact lv_tableIn (off := 819) (tgt := 851) hx hbc dl_32 h1 h2 (by rw [q]; rfl) (by decide) (xlc_25 C0 hK hst hl h5 hL kk)
        · exact lv_tableIn (off := 832) (tgt := 864) hx hbc dl_32 h1 h2 (by rw [q]; rfl) (by decide) (xlc_26 C0 hK hst hl h5 hL kk)
set_option maxRecDepth 100000 in
theorem xl_c6 : xa_in (.classLink R_law 7 RX6) := xa_pl 59 rfl rfl
set_option maxRecDepth 100000 in
theorem xl_c7 : xa_in (.classLink R_law 10 RX7) := xa_pl 689 rfl rfl
set_option maxRecDepth 100000 in
theorem xl_i6 : xa_in (.methodLink R_law 9 mi_49.1) ∧ xa_in (.instanceMethod mi_49.1) := ⟨xa_pl 61 rfl rfl, xa_pl 62 rfl rfl⟩
set_option maxRecDepth 100000 in
theorem xl_i7 : xa_in (.methodLink R_law 12 mi_93.1) ∧ xa_in (.instanceMethod mi_93.1) := ⟨xa_pl 691 rfl rfl, xa_pl 692 rfl rfl⟩
set_option maxRecDepth 100000 in
set_option maxHeartbeats 4000000 in
theorem whole_start {p : Program} {e : Env} {s : State} {m : MethodId} {below : List Frame} {meth : Method} {c : Code} (l : Launch) {b L : Nat} {xs : Nat → Int32} (hL : L ≤ 2560) (C0 : lw_At p s m meth c b L xs) : W p l e room_1 s m #[Value.ref b] below meth c s.heap [] 0 0 (lw_Z below #[Value.ref b] s) (entryFrame m ([Value.ref b] : List Value).toArray 4) := by
  obtain ⟨hx, hbc, hr, hml, hown, hts, hX, hbl, hlocks, hgv⟩ := id C0
  obtain ⟨D, cA, sa, hK⟩ := xl_K C0
  have hl := lv_entry ([.ref b]) (n := 4) (Nat.le_of_ble_eq_true rfl)
  rw [lg_entry_eq]
  generalize (lg_sl ([.ref b]) ++ List.replicate (4 - (lg_sl ([.ref b])).length) Slot.unset).toArray = ls at hl ⊢
  have hl : lv_has ls 4 [(0, .ref b)] := hl
  obtain ⟨M0, eM0⟩ : ∃ M0 : xa_M, M0 = (fun _ => none, s.heap.size, 0, sa) := ⟨_, rfl⟩
  have z1 : M0.2.1 = s.heap.size := by rw [eM0]
  have z2 : M0.2.2.2 = sa := by rw [eM0]
  have hR0 : xa_R s.heap.size s.heap D cA M0 s.heap := ⟨z1, Nat.le_refl _, fun _ _ => rfl, fun a e h => by rw [eM0] at h; cases h⟩
  refine xl_new C0 (M := M0) (ci := 6) (by rw [z2]; exact hK) hR0 rfl xl_c6 dl_0 (by decide) (fun H1 hR1 => ?_)
  rw [z1]
  obtain ⟨M1, eM1⟩ : ∃ M1 : xa_M, M1 = xa_al M0 (.inr (6, xa_df 6)) (xa_df 6).length := ⟨_, rfl⟩
  rw [← eM1] at hR1
  have y1 : M1.2.1 = s.heap.size + 1 := by rw [eM1]; show M0.2.1 + 1 = _; rw [z1]
  have y2 : M1.2.2.2 = sa := by rw [eM1]; exact z2
  have y3 : M1.1 s.heap.size = some (.inr (6, xa_df 6)) := by rw [eM1]; show (if _ = M0.2.1 then _ else _) = _; rw [z1, if_pos rfl]
  refine lv_dup hx hbc dl_3 rfl ?_
  obtain ⟨z, hE, hz0, ⟨_, n2, n3, n4⟩, hA⟩ := pn_O y3 y1
  refine xl_callI C0 (M := M1) (zr := z) (r := [.ref s.heap.size]) (by rw [y2]; exact hK) hR1 mh_49 xl_i6.1 xl_i6.2 rfl (by decide +kernel) (by show 1 ≤ 2; decide) hE hl.1 (by show (1 : Nat) ≤ 8; decide) dl_4 (by decide) (by rw [n2, n3, y1]; constructor <;> omega) (fun H2 L2 hR2 hL2 => ?_)
  rw [hz0]
  have s1 : z.2.2.1 - M1.2.1 = 106 := by rw [n2, y1]; omega
  have s2 : z.2.2.2.1 - M1.2.2.1 = 993 := by rw [n3]; omega
  rw [s1, s2]
  obtain ⟨M2, eM2⟩ : ∃ M2 : xa_M, M2 = z.2 := ⟨_, rfl⟩
  rw [← eM2] at hR2 hA n2 n3 n4
  refine lv_astore_n (lv' := [(1, .ref s.heap.size), (0, .ref b)]) hx hbc dl_7 rfl hl (by decide) rfl (fun ls hl => ?_)
  have x2 : M2.2.2.2 = sa := n4.trans y2
  refine xl_new C0 (M := M2) (ci := 7) (by rw [x2]; exact hK) hR2 rfl xl_c7 dl_8 (by decide) (fun H3 hR3 => ?_)
  rw [n2]
  obtain ⟨M3, eM3⟩ : ∃ M3 : xa_M, M3 = xa_al M2 (.inr (7, xa_df 7)) (xa_df 7).length := ⟨_, rfl⟩
  rw [← eM3] at hR3
  have w1 : M3.2.1 = s.heap.size + 107 + 1 := by rw [eM3]; show M2.2.1 + 1 = _; rw [n2]
  have w2 : M3.2.2.2 = sa := by rw [eM3]; exact x2
  have w3 : M3.1 (s.heap.size + 107) = some (.inr (7, xa_df 7)) := by rw [eM3]; show (if _ = M2.2.1 then _ else _) = _; rw [n2, if_pos rfl]
  have w4 : ∀ q, q < s.heap.size + 107 → M3.1 q = M2.1 q := fun q hq => by rw [eM3]; show (if _ = M2.2.1 then _ else _) = _; rw [n2, if_neg (by omega)]
  refine lv_dup hx hbc dl_11 rfl ?_
  obtain ⟨z', hE', hz0', ⟨n1', n2', n3', n4'⟩, hB⟩ := pn_B w3 w1
  refine xl_callI C0 (M := M3) (zr := z') (r := [.ref (s.heap.size + 107)]) (by rw [w2]; exact hK) hR3 mh_93 xl_i7.1 xl_i7.2 rfl (by decide +kernel) (by show 1 ≤ 1; decide) hE' hl.1 (by show (1 : Nat) ≤ 8; decide) dl_12 (by decide) (by rw [n2', n3', w1]; constructor <;> omega) (fun H4 L4 hR4 hL4 => ?_)
  rw [hz0']
  have s1' : z'.2.2.1 - M3.2.1 = 9 := by rw [n2', w1]; omega
  have s2' : z'.2.2.2.1 - M3.2.2.1 = 1796 := by rw [n3']; omega
  rw [s1', s2']
  refine lv_astore_n (lv' := [(2, .ref (s.heap.size + 107)), (1, .ref s.heap.size), (0, .ref b)]) hx hbc dl_15 rfl hl (by decide) rfl (fun ls hl => ?_)
  refine lv_iconst (v := nI 0) hx hbc dl_16 (by decide) ?_
  refine lv_istore_n (lv' := [(3, .int (nI 0)), (2, .ref (s.heap.size + 107)), (1, .ref s.heap.size), (0, .ref b)]) hx hbc dl_17 rfl hl (by decide) rfl (fun ls hl => ?_)
  have hA4 : xh_A z'.2 s.heap.size xs_0 := xh_A_lo hA (fun q hq => (n1' q hq).trans (w4 q hq)) (Nat.le_refl _)
  have hlo : ∀ y ∈ ([] ++ L2) ++ L4, s.heap.size ≤ y.base := fun y hy => (List.mem_append.mp hy).elim (fun h => hL2 y h) (hL4 y)
  exact xl_loop C0 hL hK (L + 1) 0 (Nat.zero_le L) (by omega) z'.2 H4 _ ⟨xs_0, hA4, hB, xi_0, hR4, n4'.trans w2, hlo⟩ ls (lv_sub hl [3, 2, 1, 0] rfl)
