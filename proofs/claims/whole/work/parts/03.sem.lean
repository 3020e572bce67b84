def xa_fl (own : Nat) : List (Nat × Nat × Nat × Nat) := match own with
  | 0 => [(15, 0, 0, 205), (22, 0, 1, 206)]
  | 1 => [(9, 1, 0, 219), (15, 1, 1, 220), (18, 1, 2, 221), (21, 1, 3, 222)]
  | 2 => [(9, 2, 1, 168), (15, 2, 2, 170), (18, 2, 3, 172), (21, 2, 4, 175), (24, 2, 5, 178), (27, 2, 0, 166), (31, 4, 6, 115), (40, 4, 9, 123), (41, 4, 3, 106), (44, 4, 7, 117), (47, 4, 8, 121), (50, 4, 5, 113), (57, 4, 4, 110), (68, 4, 1, 101), (82, 4, 10, 126), (89, 4, 0, 97)]
  | 3 => [(9, 3, 0, 73), (15, 3, 2, 76), (19, 3, 1, 75), (32, 3, 3, 77)]
  | 4 => [(9, 4, 4, 107), (15, 4, 5, 111), (18, 4, 6, 114), (21, 4, 8, 119), (24, 4, 9, 122), (27, 4, 10, 124), (30, 4, 12, 129), (33, 4, 13, 130), (36, 4, 0, 95), (40, 4, 1, 99), (43, 4, 2, 103), (46, 4, 3, 104), (49, 4, 7, 116), (52, 4, 11, 127)]
  | 5 => [(9, 5, 2, 243), (17, 5, 3, 244), (20, 4, 0, 96), (26, 2, 3, 173), (40, 5, 0, 241), (43, 4, 4, 108), (46, 2, 4, 176), (49, 5, 1, 242), (60, 4, 1, 100)]
  | 6 => [(10, 6, 0, 379), (19, 6, 1, 380), (23, 6, 2, 381), (29, 6, 3, 382), (33, 6, 4, 383), (41, 6, 5, 384), (45, 6, 6, 385), (51, 6, 7, 386), (58, 6, 8, 387), (82, 3, 1, 74), (93, 4, 3, 105), (99, 1, 3, 223), (102, 0, 1, 207), (107, 4, 4, 109), (111, 4, 5, 112), (114, 2, 1, 169), (117, 2, 2, 171), (120, 2, 3, 174), (123, 2, 4, 177), (133, 4, 8, 120), (136, 2, 5, 179), (139, 4, 10, 125), (163, 2, 0, 167), (183, 4, 1, 102), (204, 4, 11, 128), (218, 4, 0, 98), (236, 4, 7, 118)]
  | 7 => [(7, 7, 0, 703), (13, 7, 1, 704), (16, 7, 3, 706), (20, 7, 5, 708), (23, 7, 7, 710), (26, 7, 10, 713), (29, 7, 13, 716), (32, 7, 15, 718), (35, 7, 16, 719), (39, 7, 17, 720), (42, 7, 19, 722), (56, 7, 4, 707), (63, 7, 8, 711), (66, 7, 9, 712), (77, 7, 12, 715), (87, 7, 11, 714), (107, 7, 18, 721), (110, 7, 14, 717), (113, 7, 20, 723), (131, 7, 2, 705), (137, 7, 6, 709)]
  | _ => []
def xa_ct (own : Nat) : List (Nat × Nat × Nat × Nat × Nat × Nat × Nat) := match own with
  | 0 => [(1, 5, 0, 0, 198, 0, 0), (7, 6, 0, 0, 199, 0, 0), (21, 4, 7, 1, 204, 163, 0), (26, 0, 2, 1, 470, 471, 472), (29, 0, 9, 2, 474, 475, 476)]
  | 1 => [(3, 5, 0, 0, 218, 0, 0)]
  | 2 => [(3, 5, 0, 0, 165, 0, 0), (36, 3, 91, 2, 370, 371, 0), (53, 0, 15, 4, 518, 439, 440), (60, 0, 39, 2, 519, 520, 521), (64, 0, 40, 2, 523, 524, 525), (71, 0, 18, 2, 506, 507, 508), (75, 0, 20, 3, 510, 511, 512), (79, 0, 19, 2, 527, 528, 529), (85, 0, 16, 4, 514, 515, 516)]
  | 3 => [(3, 5, 0, 0, 72, 0, 0), (23, 0, 29, 1, 311, 312, 313), (28, 0, 24, 2, 315, 316, 317), (35, 0, 31, 4, 331, 332, 333), (39, 0, 25, 2, 319, 320, 321), (42, 0, 27, 3, 327, 328, 329), (46, 0, 26, 2, 323, 324, 325)]
  | 4 => [(3, 5, 0, 0, 94, 0, 0), (55, 3, 91, 2, 429, 371, 0), (59, 0, 32, 2, 335, 336, 337), (63, 0, 33, 2, 342, 343, 344), (66, 0, 34, 2, 346, 347, 348), (69, 0, 35, 4, 350, 351, 352), (73, 0, 36, 4, 354, 355, 356), (76, 0, 38, 3, 362, 363, 364), (80, 3, 77, 3, 339, 340, 0), (83, 0, 37, 4, 358, 359, 360), (86, 0, 40, 2, 589, 524, 525), (90, 6, 0, 0, 614, 0, 0)]
  | 5 => [(3, 5, 0, 0, 238, 0, 0), (31, 7, 0, 0, 569, 0, 0), (37, 6, 0, 0, 570, 0, 0), (52, 0, 45, 4, 571, 572, 573), (56, 0, 19, 2, 576, 528, 529), (63, 0, 46, 3, 577, 578, 579), (67, 0, 16, 4, 575, 515, 516), (71, 0, 47, 4, 581, 582, 583), (75, 0, 41, 3, 585, 586, 587)]
  | 6 => [(1, 5, 0, 0, 64, 0, 0), (9, 4, 21, 1, 69, 70, 0), (18, 4, 28, 1, 91, 92, 0), (28, 4, 7, 1, 162, 163, 0), (38, 2, 0, 2, 195, 196, 0), (50, 4, 4, 1, 215, 216, 0), (57, 4, 43, 1, 235, 236, 0), (64, 9, 0, 0, 255, 0, 0), (70, 10, 0, 0, 265, 0, 0), (74, 0, 22, 2, 303, 304, 305), (78, 0, 23, 2, 307, 308, 309), (85, 0, 8, 2, 366, 367, 368), (89, 1, 77, 3, 412, 340, 0), (96, 0, 30, 2, 425, 426, 427), (103, 0, 78, 2, 434, 436, 0), (126, 0, 15, 4, 438, 439, 440), (130, 0, 79, 2, 446, 448, 1), (142, 0, 80, 2, 454, 456, 2), (145, 0, 10, 2, 458, 459, 460), (148, 0, 11, 3, 462, 463, 464), (152, 0, 1, 2, 466, 467, 468), (156, 0, 12, 3, 478, 479, 480), (160, 0, 13, 2, 486, 487, 488), (166, 0, 14, 3, 498, 499, 500), (170, 0, 17, 3, 502, 503, 504), (174, 0, 3, 2, 535, 536, 537), (177, 0, 9, 2, 543, 475, 476), (179, 0, 82, 2, 548, 550, 3), (186, 0, 83, 3, 557, 559, 4), (190, 0, 44, 4, 565, 566, 567), (194, 0, 48, 4, 590, 591, 592), (197, 0, 84, 4, 598, 600, 5), (201, 1, 81, 2, 607, 608, 0), (207, 0, 42, 2, 610, 611, 612), (210, 0, 5, 4, 623, 624, 625), (212, 0, 85, 3, 635, 637, 6), (215, 0, 86, 2, 647, 649, 7), (221, 1, 89, 2, 655, 656, 0), (224, 1, 90, 2, 658, 659, 0), (227, 1, 87, 2, 665, 666, 0), (230, 0, 88, 2, 672, 674, 8), (233, 0, 18, 2, 552, 507, 508), (239, 0, 37, 4, 602, 359, 360), (242, 0, 6, 4, 639, 640, 641), (253, 0, 40, 2, 676, 524, 525), (256, 7, 0, 0, 373, 0, 0), (261, 8, 0, 0, 376, 0, 0)]
  | 7 => [(1, 5, 0, 0, 694, 0, 0), (45, 0, 94, 5, 695, 697, 9), (49, 0, 95, 1, 699, 701, 10), (52, 1, 92, 3, 774, 775, 0), (73, 0, 107, 1, 797, 799, 14), (80, 0, 108, 4, 793, 795, 13), (84, 0, 109, 4, 789, 791, 12), (91, 0, 110, 1, 803, 805, 15), (94, 0, 111, 1, 807, 809, 16), (97, 0, 112, 1, 811, 813, 17), (100, 0, 113, 1, 785, 787, 11), (103, 0, 114, 1, 819, 782, 783), (116, 0, 104, 2, 845, 847, 23), (120, 0, 103, 2, 911, 913, 34), (123, 0, 116, 3, 849, 851, 24), (127, 0, 117, 3, 907, 909, 33), (134, 0, 119, 1, 915, 917, 35), (140, 0, 118, 1, 903, 905, 32), (143, 0, 99, 2, 829, 831, 19), (146, 0, 96, 2, 824, 826, 18), (152, 0, 100, 2, 833, 835, 20), (155, 0, 101, 2, 837, 839, 21), (158, 0, 102, 2, 841, 843, 22), (161, 0, 97, 2, 857, 859, 25), (166, 0, 98, 2, 866, 868, 26), (169, 0, 124, 1, 870, 872, 27), (172, 0, 125, 3, 874, 876, 28), (176, 0, 126, 2, 882, 884, 29), (182, 0, 121, 2, 895, 897, 30), (185, 0, 120, 2, 899, 901, 31), (190, 0, 132, 1, 928, 930, 36), (193, 0, 133, 1, 932, 934, 37), (196, 0, 136, 2, 944, 946, 38), (199, 1, 138, 3, 956, 957, 0), (203, 0, 139, 3, 952, 954, 39), (206, 0, 142, 3, 971, 973, 41), (209, 0, 143, 4, 967, 969, 40), (214, 0, 148, 2, 992, 994, 42), (217, 0, 150, 2, 1000, 1002, 43)]
  | _ => []
def xa_nt (own : Nat) : List (Nat × Nat × Nat) := match own with
  | 0 => [(13, 2, 202)]
  | 5 => [(15, 99, 239)]
  | 6 => [(7, 3, 67), (16, 4, 89), (26, 2, 160), (36, 0, 193), (48, 1, 213), (55, 5, 233)]
  | _ => []
def xa_lt (own : Nat) : List (Nat × Nat × Nat) := match own with
  | 6 => [(245, 7919, 668), (247, 6151, 669), (249, 65521, 670), (251, 2, 671)]
  | 7 => [(59, 32, 772), (61, 126, 773), (69, 48, 801), (71, 57, 802), (150, 6, 828), (164, 2, 861), (180, 60, 894), (188, 99, 927), (212, 3, 983), (220, 8, 1008), (222, 10, 1009), (224, 9999, 1014), (226, 7919, 1015), (228, 6151, 1016), (230, 65521, 1017)]
  | _ => []
def xa_df (ci : Nat) : List Value := match ci with
  | 0 => [.null, .int 0]
  | 1 => [.null, .null, .null, .int 0]
  | 2 => [.int 0, .null, .null, .null, .null, .null]
  | 3 => [.null, .int 0, .null, .int 0]
  | 4 => [.int 0, .int 0, .int 0, .int 0, .null, .null, .null, .int 0, .null, .null, .null, .int 0, .null, .null]
  | 5 => [.int 0, .int 0, .null, .null]
  | 6 => [.null, .null, .null, .null, .null, .null, .null, .null, .null]
  | 7 => [.null, .null, .int 0, .int 0, .int 0, .int 0, .int 0, .null, .int 0, .int 0, .null, .int 0, .int 0, .null, .int 0, .null, .null, .null, .int 0, .null, .int 0]
  | _ => []
/-- is the field a row of ints, of a boolean, or a reference (0, 1, 2) -/
def xa_ty (ci k : Nat) : Nat := match ci with
  | 0 => [2, 0].getD k 2
  | 1 => [2, 2, 2, 0].getD k 2
  | 2 => [0, 2, 2, 2, 2, 2].getD k 2
  | 3 => [2, 0, 2, 0].getD k 2
  | 4 => [0, 0, 0, 0, 2, 2, 2, 0, 2, 2, 2, 0, 2, 2].getD k 2
  | 5 => [0, 0, 2, 2].getD k 2
  | 6 => [2, 2, 2, 2, 2, 2, 2, 2, 2].getD k 2
  | 7 => [2, 2, 0, 0, 0, 0, 0, 2, 0, 0, 2, 1, 0, 2, 0, 2, 2, 2, 0, 2, 0].getD k 2
  | _ => 2
def xa_fin (ci k : Nat) : Bool := match ci with
  | 0 => [true, false].getD k true
  | 1 => [true, true, true, false].getD k true
  | 2 => [false, true, true, true, true, true].getD k true
  | 3 => [true, false, true, false].getD k true
  | 4 => [false, false, false, false, true, true, true, false, true, true, true, false, true, true].getD k true
  | 5 => [false, false, true, true].getD k true
  | 6 => [true, true, true, true, true, true, true, true, true].getD k true
  | 7 => [true, true, false, false, false, false, false, true, false, false, true, false, false, true, false, true, true, true, false, true, false].getD k true
  | _ => true
abbrev xa_I : Type := Jvm.ClassFile.Instr
abbrev xa_A : Type := Nat × vp_A
abbrev xa_C : Type := xa_A ⊕ (Nat × List Value)
/-- the memory: what a cell holds (arrays by a tag of their kind), where the next cell comes, how many slots were made, where the class's own text lies -/
abbrev xa_M : Type := (Nat → Option xa_C) × Nat × Nat × Nat
abbrev xa_L : Type := Nat → Option Value
abbrev xa_Z : Type := Option Value × xa_M
abbrev xa_J : Type := Nat → Nat → xa_L → List Value → xa_M → xa_Z → Prop
def xa_st (M : xa_M) (a : Nat) (e : xa_C) : xa_M := (fun q => if q = a then some e else M.1 q, M.2)
def xa_al (M : xa_M) (e : xa_C) (n : Nat) : xa_M := (fun q => if q = M.2.1 then some e else M.1 q, M.2.1 + 1, M.2.2.1 + n, M.2.2.2)
def xa_c1 (w : Option Value) : Option Value := match w with
  | some (.int x) => some (.int x)
  | some (.ref a) => some (.ref a)
  | _ => none
def xa_s1 (lv : xa_L) (i : Nat) (v : Value) : xa_L := fun j => if j = i then some v else if j + 1 = i then xa_c1 (lv j) else lv j
def xa_s2 (lv : xa_L) (i : Nat) (v : Value) : xa_L := fun j => if j = i then some v else if j = i + 1 then none else if j + 1 = i then xa_c1 (lv j) else lv j
def xa_ent (As : List Value) : xa_L := fun i => (lv_args 0 As).lookup i
def xa_cst (n : Int) : Int32 := if n < 0 then Int32.ofInt n else nI n.toNat
def xa_tx : List Nat := [110, 57, 59, 99, 52, 59, 103, 50, 59, 115, 48, 44, 48, 44, 49, 59, 115, 49, 44, 48, 44, 50, 59, 115, 50, 44, 49, 44, 51, 59, 115, 51, 44, 49, 44, 48, 59, 115, 48, 44, 50, 44, 48, 59, 109, 48, 44, 48, 44, 49, 59, 109, 49, 44, 49, 44, 50, 59, 119, 48, 44, 51, 59, 119, 50, 44, 54, 59, 119, 53, 44, 57, 59, 119, 51, 44, 53, 59]
-- what an instruction takes
def xa_kli (lv : xa_L) (i : Nat) (K : Int32 → Prop) : Prop := match lv i with
  | some (.int x) => K x
  | _ => False
def xa_klr (lv : xa_L) (i : Nat) (K : Nat → Prop) : Prop := match lv i with
  | some (.ref x) => K x
  | _ => False
def xa_kll (lv : xa_L) (i : Nat) (K : Int64 → Prop) : Prop := match lv i with
  | some (.long x) => K x
  | _ => False
def xa_ki (st : List Value) (K : Int32 → List Value → Prop) : Prop := match st with
  | .int x :: r => K x r
  | _ => False
def xa_kl (st : List Value) (K : Int64 → List Value → Prop) : Prop := match st with
  | .long x :: r => K x r
  | _ => False
def xa_kr (st : List Value) (K : Nat → List Value → Prop) : Prop := match st with
  | .ref x :: r => K x r
  | _ => False
def xa_kii (st : List Value) (K : Int32 → Int32 → List Value → Prop) : Prop := match st with
  | .int y :: .int x :: r => K x y r
  | _ => False
def xa_kk (st : List Value) (K : Int64 → Int64 → List Value → Prop) : Prop := match st with
  | .long y :: .long x :: r => K x y r
  | _ => False
def xa_kir (st : List Value) (K : Nat → Int32 → List Value → Prop) : Prop := match st with
  | .int i :: .ref a :: r => K a i r
  | _ => False
def xa_krr (st : List Value) (K : Nat → Nat → List Value → Prop) : Prop := match st with
  | .ref v :: .ref a :: r => K a v r
  | _ => False
def xa_kiir (st : List Value) (K : Nat → Int32 → Int32 → List Value → Prop) : Prop := match st with
  | .int x :: .int i :: .ref a :: r => K a i x r
  | _ => False
def xa_krir (st : List Value) (K : Nat → Int32 → Nat → List Value → Prop) : Prop := match st with
  | .ref x :: .int i :: .ref a :: r => K a i x r
  | _ => False
def xa_kdup (st : List Value) (K : Value → List Value → Prop) : Prop := match st with
  | .int x :: r => K (.int x) r
  | .ref a :: r => K (.ref a) r
  | _ => False
def xa_kdup2 (st : List Value) (K : Value → Value → List Value → Prop) : Prop := match st with
  | .int x :: .ref a :: r => K (.ref a) (.int x) r
  | _ => False
def xa_kcp (st : List Value) (K : Nat → Int32 → Nat → Int32 → Int32 → List Value → Prop) : Prop := match st with
  | .int n :: .int dp :: .ref d :: .int sp :: .ref s :: r => K s sp d dp n r
  | _ => False
-- the memory's cells
def xa_gf (M : xa_M) (a ci k : Nat) (K : Value → Prop) : Prop := match M.1 a with
  | some (.inr (c, fs)) => c = ci ∧ (match fs[k]? with
    | some v => K v
    | none => False)
  | _ => False
def xa_pf (M : xa_M) (a ci k : Nat) (v : Value) (K : xa_M → Prop) : Prop := match M.1 a with
  | some (.inr (c, fs)) => c = ci ∧ k < fs.length ∧ K (xa_st M a (.inr (c, fs.set k v)))
  | _ => False
def xa_ga (t : Nat) (M : xa_M) (a : Nat) (i : Int32) (K : Int32 → Prop) : Prop := match M.1 a with
  | some (.inl (t', n, .inl f)) => t' = t ∧ vp_in i n ∧ K (f i.toNatClampNeg)
  | _ => False
def xa_pa (t : Nat) (M : xa_M) (a : Nat) (i x : Int32) (K : xa_M → Prop) : Prop := match M.1 a with
  | some (.inl (t', n, .inl f)) => t' = t ∧ vp_in i n ∧ K (xa_st M a (.inl (t', n, .inl (upd f i.toNatClampNeg x))))
  | _ => False
def xa_gq (M : xa_M) (a : Nat) (i : Int32) (K : Nat → Prop) : Prop := match M.1 a with
  | some (.inl (t', n, .inr (.inr (.inr (.inr f))))) => (t' = 3 ∨ t' = 4) ∧ vp_in i n ∧ (match f i.toNatClampNeg with
    | some q => K q
    | none => False)
  | _ => False
def xa_pq (M : xa_M) (a : Nat) (i : Int32) (v : Nat) (K : xa_M → Prop) : Prop := match M.1 a with
  | some (.inl (t', n, .inr (.inr (.inr (.inr f))))) => t' = 3 ∧ vp_in i n ∧ (∃ fs, M.1 v = some (.inr (2, fs))) ∧ K (xa_st M a (.inl (t', n, .inr (.inr (.inr (.inr (va_up f i.toNatClampNeg (some v))))))))
  | _ => False
def xa_gl (M : xa_M) (a : Nat) (K : Int32 → Prop) : Prop := match M.1 a with
  | some (.inl (t, n, _)) => (t = 0 ∨ t = 3) ∧ K (nI n)
  | _ => False
def xa_cp (M : xa_M) (s : Nat) (sp : Int32) (d : Nat) (dp n : Int32) (K : xa_M → Prop) : Prop := match M.1 s, M.1 d with
  | some (.inl (t0, n0, .inl f)), some (.inl (t1, n1, .inl g)) => t0 = 0 ∧ t1 = 0 ∧ ¬ sp < 0 ∧ ¬ dp < 0 ∧ ¬ n < 0 ∧ sp.toNatClampNeg + n.toNatClampNeg ≤ n0 ∧ dp.toNatClampNeg + n.toNatClampNeg ≤ n1 ∧ K (xa_st M d (.inl (t1, n1, .inl (va_cpy f g sp.toNatClampNeg dp.toNatClampNeg n.toNatClampNeg))))
  | _, _ => False
def xa_jmp (pc : Nat) (off : Int) (K : Nat → Prop) : Prop := if 0 ≤ (pc : Int) + off then K ((pc : Int) + off).toNat else False
def xa_args (n : Nat) (st : List Value) (K : List Value → List Value → Prop) : Prop := match n, st with
  | 0, r => K [] r
  | 1, a :: r => K [a] r
  | 2, b :: a :: r => K [a, b] r
  | 3, c :: b :: a :: r => K [a, b, c] r
  | 4, d :: c :: b :: a :: r => K [a, b, c, d] r
  | 5, e :: d :: c :: b :: a :: r => K [a, b, c, d, e] r
  | _, _ => False
def xa_rc (M : xa_M) (ci : Nat) (As : List Value) : Prop := match As with
  | .ref a :: _ => ∃ fs, M.1 a = some (.inr (ci, fs))
  | _ => False
def xa_rf (As : List Value) : Prop := match As with
  | .ref _ :: _ => True
  | _ => False
def xa_w8 (r : List Value) : Prop := (r.map fun v => v.category).sum ≤ 8
def xa_mxl (mid : Nat) : Nat := match xa_mt[mid]? with
  | some q => q.2.2.1
  | none => 0
def xa_fit (mid : Nat) (As : List Value) : Prop := (lg_sl As).length ≤ xa_mxl mid
/-- a call: the callee's answer, and on -/
def xa_kc (R : xa_J) (M : xa_M) (mid : Nat) (As r : List Value) (K : xa_Z → Prop) : Prop := xa_w8 r ∧ xa_fit mid As ∧ ∃ z : xa_Z, R mid 0 (xa_ent As) [] M z ∧ K z
def xa_sw (x : Int32) (pc : Nat) (d lo hi : Int) (offs : Array Int) (K : Nat → Prop) : Prop := if x.toInt < lo ∨ hi < x.toInt then xa_jmp pc d K else (match offs[(x.toInt - lo).toNat]? with
  | some o => xa_jmp pc o K
  | none => False)
def xa_rnk (mid : Nat) : Nat := match xa_mt[mid]? with
  | some q => q.2.2.2.2.2
  | none => 0
def xa_mcl (mid : Nat) : Nat := match xa_mt[mid]? with
  | some q => q.2.2.2.2.1
  | none => 0
def xa_inv (R : xa_J) (q : xa_MI) (kd : Nat → Bool) (idx mid pc : Nat) (lv : xa_L) (st : List Value) (M : xa_M) (res : xa_Z) : Prop :=
  match (xa_ct q.2.2.2.2.1).lookup idx with
  | some (k, m2, n, _) => if kd k = true then
    (if k = 5 then xa_kr st (fun _ r => xa_w8 r ∧ R mid (pc + 3) lv r M res)
    else if k = 6 then xa_kii st (fun x y r => xa_w8 r ∧ R mid (pc + 3) lv (.int (if x < y then y else x) :: r) M res)
    else if k = 7 then xa_kii st (fun x y r => xa_w8 r ∧ R mid (pc + 3) lv (.int (if y < x then y else x) :: r) M res)
    else if k = 8 then xa_kcp st (fun s sp d dp n r => xa_w8 r ∧ xa_cp M s sp d dp n (fun M2 => R mid (pc + 3) lv r M2 res))
    else if k = 9 then xa_kr st (fun a r => a = M.2.2.2 ∧ xa_w8 r ∧ R mid (pc + 3) lv (.int (nI 78) :: r) M res)
    else if k = 10 then xa_kir st (fun a i r => a = M.2.2.2 ∧ vp_in i 78 ∧ xa_w8 r ∧ R mid (pc + 3) lv (.int (nI (xa_tx.getD i.toNatClampNeg 0)) :: r) M res)
    else if k = 0 then xa_args n st (fun As r => xa_rc M (xa_mcl m2) As ∧ xa_kc R M m2 As r (fun z => R mid (pc + 3) lv (z.1.toList ++ r) z.2 res))
    else if k = 2 ∨ k = 4 then xa_args n st (fun As r => xa_rf As ∧ xa_kc R M m2 As r (fun z => R mid (pc + 3) lv (z.1.toList ++ r) z.2 res))
    else if k ≤ 4 then xa_args n st (fun As r => xa_kc R M m2 As r (fun z => R mid (pc + 3) lv (z.1.toList ++ r) z.2 res))
    else False) else False
  | none => False
/-- one instruction of a method -/
def xa_do (R : xa_J) (q : xa_MI) (ins : xa_I) (mid pc : Nat) (lv : xa_L) (st : List Value) (M : xa_M) (res : xa_Z) : Prop :=
  match ins with
  | .iconst n => R mid (pc + 1) lv (.int (xa_cst n) :: st) M res
  | .bipush n => R mid (pc + 2) lv (.int (xa_cst n) :: st) M res
  | .sipush n => R mid (pc + 3) lv (.int (xa_cst n) :: st) M res
  | .lconst n => R mid (pc + 1) lv (.long (lN n.val) :: st) M res
  | .ldc2_w i => (match (xa_lt q.2.2.2.2.1).lookup i with
    | some (v, _) => R mid (pc + 3) lv (.long (lN v) :: st) M res
    | none => False)
  | .iload i => xa_kli lv i (fun x => R mid (pc + 2) lv (.int x :: st) M res)
  | .iload_n i => xa_kli lv i.val (fun x => R mid (pc + 1) lv (.int x :: st) M res)
  | .aload_n i => xa_klr lv i.val (fun x => R mid (pc + 1) lv (.ref x :: st) M res)
  | .lload i => xa_kll lv i (fun x => R mid (pc + 2) lv (.long x :: st) M res)
  | .lload_n i => xa_kll lv i.val (fun x => R mid (pc + 1) lv (.long x :: st) M res)
  | .istore i => xa_ki st (fun x r => R mid (pc + 2) (xa_s1 lv i (.int x)) r M res)
  | .istore_n i => xa_ki st (fun x r => R mid (pc + 1) (xa_s1 lv i.val (.int x)) r M res)
  | .astore_n i => xa_kr st (fun x r => R mid (pc + 1) (xa_s1 lv i.val (.ref x)) r M res)
  | .lstore i => xa_kl st (fun x r => R mid (pc + 2) (xa_s2 lv i (.long x)) r M res)
  | .lstore_n i => xa_kl st (fun x r => R mid (pc + 1) (xa_s2 lv i.val (.long x)) r M res)
  | .iinc i n => xa_kli lv i (fun x => R mid (pc + 3) (xa_s1 lv i (.int (x + xa_cst n))) st M res)
  | .iadd => xa_kii st (fun x y r => R mid (pc + 1) lv (.int (x + y) :: r) M res)
  | .isub => xa_kii st (fun x y r => R mid (pc + 1) lv (.int (x - y) :: r) M res)
  | .imul => xa_kii st (fun x y r => R mid (pc + 1) lv (.int (x * y) :: r) M res)
  | .iand => xa_kii st (fun x y r => R mid (pc + 1) lv (.int (x &&& y) :: r) M res)
  | .ior => xa_kii st (fun x y r => R mid (pc + 1) lv (.int (x ||| y) :: r) M res)
  | .ixor => xa_kii st (fun x y r => R mid (pc + 1) lv (.int (x ^^^ y) :: r) M res)
  | .ishl => xa_kii st (fun x y r => R mid (pc + 1) lv (.int (x <<< (y &&& 31)) :: r) M res)
  | .ishr => xa_kii st (fun x y r => R mid (pc + 1) lv (.int (x >>> (y &&& 31)) :: r) M res)
  | .idiv => xa_kii st (fun x y r => ¬ y = 0 ∧ R mid (pc + 1) lv (.int (x / y) :: r) M res)
  | .irem => xa_kii st (fun x y r => ¬ y = 0 ∧ R mid (pc + 1) lv (.int (x - x / y * y) :: r) M res)
  | .ladd => xa_kk st (fun x y r => R mid (pc + 1) lv (.long (x + y) :: r) M res)
  | .lmul => xa_kk st (fun x y r => R mid (pc + 1) lv (.long (x * y) :: r) M res)
  | .ldiv => xa_kk st (fun x y r => ¬ y = 0 ∧ R mid (pc + 1) lv (.long (x / y) :: r) M res)
  | .lrem => xa_kk st (fun x y r => ¬ y = 0 ∧ R mid (pc + 1) lv (.long (x - x / y * y) :: r) M res)
  | .lcmp => xa_kk st (fun x y r => R mid (pc + 1) lv (.int (lg_cmp x y) :: r) M res)
  | .i2l => xa_ki st (fun x r => R mid (pc + 1) lv (.long x.toInt64 :: r) M res)
  | .l2i => xa_kl st (fun x r => R mid (pc + 1) lv (.int x.toInt32 :: r) M res)
  | .i2c => xa_ki st (fun x r => R mid (pc + 1) lv (.int (x.toUInt32 % 65536).toInt32 :: r) M res)
  | .dup => xa_kdup st (fun v r => R mid (pc + 1) lv (v :: v :: r) M res)
  | .dup2 => xa_kdup2 st (fun v u r => R mid (pc + 1) lv (u :: v :: u :: v :: r) M res)
  | .pop => xa_kdup st (fun _ r => R mid (pc + 1) lv r M res)
  | .goto o => xa_jmp pc o (fun t => R mid t lv st M res)
  | .ifCond .eq o => xa_ki st (fun x r => if x = 0 then xa_jmp pc o (fun t => R mid t lv r M res) else R mid (pc + 3) lv r M res)
  | .ifCond .ne o => xa_ki st (fun x r => if x = 0 then R mid (pc + 3) lv r M res else xa_jmp pc o (fun t => R mid t lv r M res))
  | .ifCond .lt o => xa_ki st (fun x r => if x < 0 then xa_jmp pc o (fun t => R mid t lv r M res) else R mid (pc + 3) lv r M res)
  | .ifCond .ge o => xa_ki st (fun x r => if 0 ≤ x then xa_jmp pc o (fun t => R mid t lv r M res) else R mid (pc + 3) lv r M res)
  | .ifCond .gt o => xa_ki st (fun x r => if 0 < x then xa_jmp pc o (fun t => R mid t lv r M res) else R mid (pc + 3) lv r M res)
  | .ifCond .le o => xa_ki st (fun x r => if x ≤ 0 then xa_jmp pc o (fun t => R mid t lv r M res) else R mid (pc + 3) lv r M res)
  | .if_icmp .eq o => xa_kii st (fun x y r => if x = y then xa_jmp pc o (fun t => R mid t lv r M res) else R mid (pc + 3) lv r M res)
  | .if_icmp .ne o => xa_kii st (fun x y r => if x = y then R mid (pc + 3) lv r M res else xa_jmp pc o (fun t => R mid t lv r M res))
  | .if_icmp .lt o => xa_kii st (fun x y r => if x < y then xa_jmp pc o (fun t => R mid t lv r M res) else R mid (pc + 3) lv r M res)
  | .if_icmp .ge o => xa_kii st (fun x y r => if y ≤ x then xa_jmp pc o (fun t => R mid t lv r M res) else R mid (pc + 3) lv r M res)
  | .if_icmp .gt o => xa_kii st (fun x y r => if y < x then xa_jmp pc o (fun t => R mid t lv r M res) else R mid (pc + 3) lv r M res)
  | .if_icmp .le o => xa_kii st (fun x y r => if x ≤ y then xa_jmp pc o (fun t => R mid t lv r M res) else R mid (pc + 3) lv r M res)
  | .tableswitch d lo hi offs => xa_ki st (fun x r => xa_sw x pc d lo hi offs (fun t => R mid t lv r M res))
  | .lookupswitch d ps => xa_ki st (fun x r => xa_jmp pc (Op.lookupswitch.offset ps.toList d x.toInt) (fun t => R mid t lv r M res))
  | .getfield i => (match (xa_fl q.2.2.2.2.1).lookup i with
    | some (ci, k, _) => xa_kr st (fun a r => xa_gf M a ci k (fun v => R mid (pc + 3) lv (v :: r) M res))
    | none => False)
  | .putfield i => (match (xa_fl q.2.2.2.2.1).lookup i with
    | some (ci, k, _) => if xa_ty ci k = 0 then xa_kir st (fun a x r => xa_pf M a ci k (.int x) (fun M2 => R mid (pc + 3) lv r M2 res))
      else if xa_ty ci k = 1 then xa_kir st (fun a x r => (x = 0 ∨ x = 1) ∧ xa_pf M a ci k (.int x) (fun M2 => R mid (pc + 3) lv r M2 res))
      else xa_krr st (fun a x r => xa_pf M a ci k (.ref x) (fun M2 => R mid (pc + 3) lv r M2 res))
    | none => False)
  | .iaload => xa_kir st (fun a i r => xa_ga 0 M a i (fun v => R mid (pc + 1) lv (.int v :: r) M res))
  | .caload => xa_kir st (fun a i r => xa_ga 1 M a i (fun v => R mid (pc + 1) lv (.int v :: r) M res))
  | .baload => xa_kir st (fun a i r => xa_ga 2 M a i (fun v => R mid (pc + 1) lv (.int v :: r) M res))
  | .iastore => xa_kiir st (fun a i x r => xa_pa 0 M a i x (fun M2 => R mid (pc + 1) lv r M2 res))
  | .castore => xa_kiir st (fun a i x r => xa_pa 1 M a i (vp_nar .char x) (fun M2 => R mid (pc + 1) lv r M2 res))
  | .bastore => xa_kiir st (fun a i x r => xa_pa 2 M a i (vp_nar .boolean x) (fun M2 => R mid (pc + 1) lv r M2 res))
  | .aaload => xa_kir st (fun a i r => xa_gq M a i (fun v => R mid (pc + 1) lv (.ref v :: r) M res))
  | .aastore => xa_krir st (fun a i x r => xa_pq M a i x (fun M2 => R mid (pc + 1) lv r M2 res))
  | .arraylength => xa_kr st (fun a r => xa_gl M a (fun v => R mid (pc + 1) lv (.int v :: r) M res))
  | .new i => (match (xa_nt q.2.2.2.2.1).lookup i with
    | some (ci, _) => R mid (pc + 3) lv (.ref M.2.1 :: st) (xa_al M (.inr (ci, xa_df ci)) (xa_df ci).length) res
    | none => False)
  | .newarray .int => xa_ki st (fun n r => ¬ n < 0 ∧ n.toNatClampNeg ≤ 2000 ∧ R mid (pc + 2) lv (.ref M.2.1 :: r) (xa_al M (.inl (0, n.toNatClampNeg, .inl (fun _ => 0))) n.toNatClampNeg) res)
  | .newarray .char => xa_ki st (fun n r => ¬ n < 0 ∧ n.toNatClampNeg ≤ 2000 ∧ R mid (pc + 2) lv (.ref M.2.1 :: r) (xa_al M (.inl (1, n.toNatClampNeg, .inl (fun _ => 0))) n.toNatClampNeg) res)
  | .newarray .boolean => xa_ki st (fun n r => ¬ n < 0 ∧ n.toNatClampNeg ≤ 2000 ∧ R mid (pc + 2) lv (.ref M.2.1 :: r) (xa_al M (.inl (2, n.toNatClampNeg, .inl (fun _ => 0))) n.toNatClampNeg) res)
  | .anewarray i => (match (xa_nt q.2.2.2.2.1).lookup i with
    | some (ci, _) => xa_ki st (fun n r => ci = 2 ∧ ¬ n < 0 ∧ n.toNatClampNeg ≤ 2000 ∧ R mid (pc + 3) lv (.ref M.2.1 :: r) (xa_al M (.inl (3, n.toNatClampNeg, .inr (.inr (.inr (.inr (fun _ => none)))))) n.toNatClampNeg) res)
    | none => False)
  | .multianewarray i 2 => (match (xa_nt q.2.2.2.2.1).lookup i with
    | some (_, _) => xa_kii st (fun n k r => (n = nI 2 ∧ k = nI 61) ∧ R mid (pc + 4) lv (.ref M.2.1 :: r) (xa_al (xa_al (xa_al M (.inl (4, 2, .inr (.inr (.inr (.inr (fun i => if i < 2 then some (M.2.1 + 1 + i) else none)))))) 2) (.inl (0, 61, .inl (fun _ => 0))) 61) (.inl (0, 61, .inl (fun _ => 0))) 61) res)
    | none => False)
  | .ldc i => (q.2.2.2.2.1 = 6 ∧ i = 62) ∧ R mid (pc + 2) lv (.ref M.2.2.2 :: st) M res
  | .invokespecial i => xa_inv R q (fun k => k == 2 || k == 4 || k == 5) i mid pc lv st M res
  | .invokestatic i => xa_inv R q (fun k => k == 1 || k == 3 || k == 6 || k == 7 || k == 8) i mid pc lv st M res
  | .invokevirtual i => xa_inv R q (fun k => k == 0 || k == 9 || k == 10) i mid pc lv st M res
  | .ireturn => (match st with
    | [.int v] => (if q.2.2.2.1 = some .int then res = (some (.int v), M) else q.2.2.2.1 = some .boolean ∧ (v = 0 ∨ v = 1) ∧ res = (some (.int v), M))
    | _ => False)
  | .return_ => (match st with
    | [] => q.2.2.2.1 = none ∧ res = (none, M)
    | _ => False)
  | _ => False
/-- what can be seen of an instruction ahead: its length, its numbers, the rank of the callee -/
def xa_ok (q : xa_MI) (pc : Nat) (ins : xa_I) (len : Nat) : Bool := match ins with
  | .bipush n => len == 2 && (decide (-128 ≤ n) && decide (n ≤ 127))
  | .sipush n => len == 3 && (decide (-32768 ≤ n) && decide (n ≤ 32767))
  | .ldc2_w _ => len == 3
  | .iload _ => len == 2
  | .lload _ => len == 2
  | .istore i => len == 2 && decide (i < q.2.2.1)
  | .istore_n i => len == 1 && decide (i.val < q.2.2.1)
  | .astore_n i => len == 1 && decide (i.val < q.2.2.1)
  | .lstore i => len == 2 && decide (i + 1 < q.2.2.1)
  | .lstore_n i => len == 1 && decide (i.val + 1 < q.2.2.1)
  | .iinc i _ => len == 3 && decide (i < q.2.2.1)
  | .goto _ => len == 3
  | .ifCond _ o => len == 3 && decide (0 ≤ (pc : Int) + o)
  | .if_icmp _ o => len == 3 && decide (0 ≤ (pc : Int) + o)
  | .tableswitch _ _ _ _ => true
  | .lookupswitch _ ps => (ps.toList.zip (ps.toList.drop 1)).all (fun (a, next) => a.1 < next.1)
  | .getfield _ => len == 3
  | .putfield i => len == 3 && (match (xa_fl q.2.2.2.2.1).lookup i with
    | some (ci, k, _) => if xa_fin ci k then q.1.name == "<init>" && ci == q.2.2.2.2.1 else true
    | none => false)
  | .new i => len == 3 && (match (xa_nt q.2.2.2.2.1).lookup i with
    | some (ci, _) => decide (ci < 8)
    | none => false)
  | .newarray _ => len == 2
  | .anewarray _ => len == 3
  | .invokespecial i => len == 3 && (match (xa_ct q.2.2.2.2.1).lookup i with
    | some (k, m2, _, _) => if k = 5 then decide (0 < q.2.2.2.2.2) else decide (xa_rnk m2 < q.2.2.2.2.2)
    | none => false)
  | .invokestatic i => len == 3 && (match (xa_ct q.2.2.2.2.1).lookup i with
    | some (k, m2, _, _) => if 5 ≤ k then decide (0 < q.2.2.2.2.2) else decide (xa_rnk m2 < q.2.2.2.2.2)
    | none => false)
  | .multianewarray i _ => len == 4 && (match (xa_nt q.2.2.2.2.1).lookup i with
    | some (ci, _) => !(decide (ci < 8))
    | none => false)
  | .ldc _ => len == 2
  | .invokevirtual i => len == 3 && (match (xa_ct q.2.2.2.2.1).lookup i with
    | some (k, m2, _, _) => if 5 ≤ k then decide (4 ≤ q.2.2.2.2.2) else decide (xa_rnk m2 < q.2.2.2.2.2)
    | none => false)
  | _ => len == 1
def xa_fet (q : xa_MI) (pc : Nat) : Option xa_I := match decode q.2.1 pc with
  | .ok (ins, len) => if xa_ok q pc ins len = true then some ins else none
  | .error _ => none
def xa_F (R : xa_J) : xa_J := fun mid pc lv st M res => ∃ (q : xa_MI) (ins : xa_I), xa_mt[mid]? = some q ∧ xa_fet q pc = some ins ∧ xa_do R q ins mid pc lv st M res
/-- THE JUDGEMENT: method mid, at pc with these locals, this stack and memory, comes to its end with res: the least one -/
def xa_E : xa_J := fun mid pc lv st M res => ∀ R : xa_J, (∀ mid pc lv st M res, xa_F R mid pc lv st M res → R mid pc lv st M res) → R mid pc lv st M res
section XaMono
variable {R R' : xa_J} (h : ∀ mid pc lv st M res, R mid pc lv st M res → R' mid pc lv st M res)
theorem xa_jmp_mono {pc : Nat} {o : Int} {K K' : Nat → Prop} (hK : ∀ t, K t → K' t) (x : xa_jmp pc o K) : xa_jmp pc o K' := by
  unfold xa_jmp at x ⊢
  split at x
  · rename_i c; rw [if_pos c]; exact hK _ x
  · exact x.elim
theorem xa_args_mono {n : Nat} {st : List Value} {K K' : List Value → List Value → Prop} (hK : ∀ a r, K a r → K' a r) (x : xa_args n st K) : xa_args n st K' := by
  unfold xa_args at x ⊢
  split at x <;> first | exact hK _ _ x | exact x.elim
theorem xa_kc_mono {M : xa_M} {m : Nat} {As r : List Value} {K K' : xa_Z → Prop} (h : ∀ mid pc lv st M res, R mid pc lv st M res → R' mid pc lv st M res) (hK : ∀ z, K z → K' z) (x : xa_kc R M m As r K) : xa_kc R' M m As r K' := by
  obtain ⟨h1, h0, z, h2, h3⟩ := x
  exact ⟨h1, h0, z, h _ _ _ _ _ _ h2, hK z h3⟩
theorem xa_inv_mono (h : ∀ mid pc lv st M res, R mid pc lv st M res → R' mid pc lv st M res) {q : xa_MI} {kd : Nat → Bool} {i mid pc : Nat} {lv : xa_L} {st : List Value} {M : xa_M} {res : xa_Z} (x : xa_inv R q kd i mid pc lv st M res) : xa_inv R' q kd i mid pc lv st M res := by
  unfold xa_inv at x ⊢
  split at x
  · split at x
    · rename_i hk
      rw [if_pos hk]
      split at x
      · rename_i h5; rw [if_pos h5]; unfold xa_kr at x ⊢; split at x
        · exact ⟨x.1, h _ _ _ _ _ _ x.2⟩
        · exact x.elim
      · rename_i h5; rw [if_neg h5]
        split at x
        · rename_i h5; rw [if_pos h5]; unfold xa_kii at x ⊢; split at x
          · exact ⟨x.1, h _ _ _ _ _ _ x.2⟩
          · exact x.elim
        · rename_i h5; rw [if_neg h5]
          split at x
          · rename_i h5; rw [if_pos h5]; unfold xa_kii at x ⊢; split at x
            · exact ⟨x.1, h _ _ _ _ _ _ x.2⟩
            · exact x.elim
          · rename_i h5; rw [if_neg h5]
            split at x
            · rename_i h5; rw [if_pos h5]; unfold xa_kcp at x ⊢; split at x
              · refine ⟨x.1, ?_⟩
                have x := x.2
                unfold xa_cp at x ⊢
                split at x
                · obtain ⟨a1, a2, a3, a4, a5, a6, a7, a8⟩ := x
                  exact ⟨a1, a2, a3, a4, a5, a6, a7, h _ _ _ _ _ _ a8⟩
                · exact x.elim
              · exact x.elim
            · rename_i h5; rw [if_neg h5]
              split at x
              · rename_i h5; rw [if_pos h5]; unfold xa_kr at x ⊢; split at x
                · exact ⟨x.1, x.2.1, h _ _ _ _ _ _ x.2.2⟩
                · exact x.elim
              · rename_i h5; rw [if_neg h5]
                split at x
                · rename_i h5; rw [if_pos h5]; unfold xa_kir at x ⊢; split at x
                  · exact ⟨x.1, x.2.1, x.2.2.1, h _ _ _ _ _ _ x.2.2.2⟩
                  · exact x.elim
                · rename_i h5; rw [if_neg h5]
                  split at x
                  · rename_i h5; rw [if_pos h5]
                    exact xa_args_mono (fun a r y => ⟨y.1, xa_kc_mono h (fun z y => h _ _ _ _ _ _ y) y.2⟩) x
                  · rename_i h5; rw [if_neg h5]
                    split at x
                    · rename_i h5; rw [if_pos h5]
                      exact xa_args_mono (fun a r y => ⟨y.1, xa_kc_mono h (fun z y => h _ _ _ _ _ _ y) y.2⟩) x
                    · rename_i h5; rw [if_neg h5]
                      split at x
                      · rename_i h5; rw [if_pos h5]
                        exact xa_args_mono (fun a r y => xa_kc_mono h (fun z y => h _ _ _ _ _ _ y) y) x
                      · exact x.elim
    · exact x.elim
  · exact x.elim
theorem xa_do_mono (h : ∀ mid pc lv st M res, R mid pc lv st M res → R' mid pc lv st M res) {q : xa_MI} {ins : xa_I} {mid pc : Nat} {lv : xa_L} {st : List Value} {M : xa_M} {res : xa_Z} (x : xa_do R q ins mid pc lv st M res) : xa_do R' q ins mid pc lv st M res := by
  unfold xa_do at x ⊢
  split at x
  all_goals first
    | exact h _ _ _ _ _ _ x
    | exact x.elim
    | exact x
    | exact xa_inv_mono h x
    | exact ⟨x.1, h _ _ _ _ _ _ x.2⟩
    | (split at x <;> first | exact x.elim | (unfold xa_kii at x ⊢; split at x <;> first | exact ⟨x.1, h _ _ _ _ _ _ x.2⟩ | exact x.elim))
    | exact xa_jmp_mono (fun t y => h _ _ _ _ _ _ y) x
    | (unfold xa_kli at x ⊢; split at x <;> first | exact h _ _ _ _ _ _ x | exact x.elim)
    | (unfold xa_klr at x ⊢; split at x <;> first | exact h _ _ _ _ _ _ x | exact x.elim)
    | (unfold xa_kll at x ⊢; split at x <;> first | exact h _ _ _ _ _ _ x | exact x.elim)
    | (unfold xa_kl at x ⊢; split at x <;> first | exact h _ _ _ _ _ _ x | exact x.elim)
    | (unfold xa_kdup at x ⊢; split at x <;> first | exact h _ _ _ _ _ _ x | exact x.elim)
    | (unfold xa_kdup2 at x ⊢; split at x <;> first | exact h _ _ _ _ _ _ x | exact x.elim)
    | (unfold xa_kk at x ⊢; split at x <;> first | exact h _ _ _ _ _ _ x | exact ⟨x.1, h _ _ _ _ _ _ x.2⟩ | exact x.elim)
    | (unfold xa_kii at x ⊢; split at x <;> first | exact h _ _ _ _ _ _ x | exact ⟨x.1, h _ _ _ _ _ _ x.2⟩ | exact x.elim | (split at x <;> rename_i c <;> first | (rw [if_pos c]; first | exact h _ _ _ _ _ _ x | exact xa_jmp_mono (fun t y => h _ _ _ _ _ _ y) x) | (rw [if_neg c]; first | exact h _ _ _ _ _ _ x | exact xa_jmp_mono (fun t y => h _ _ _ _ _ _ y) x)))
    | (unfold xa_ki at x ⊢; split at x <;> first | exact h _ _ _ _ _ _ x | exact x.elim | exact ⟨x.1, x.2.1, h _ _ _ _ _ _ x.2.2⟩ | exact xa_jmp_mono (fun t y => h _ _ _ _ _ _ y) x | (split at x <;> rename_i c <;> first | (rw [if_pos c]; first | exact h _ _ _ _ _ _ x | exact xa_jmp_mono (fun t y => h _ _ _ _ _ _ y) x) | (rw [if_neg c]; first | exact h _ _ _ _ _ _ x | exact xa_jmp_mono (fun t y => h _ _ _ _ _ _ y) x)) | (unfold xa_sw at x ⊢; split at x <;> rename_i c <;> first | (rw [if_pos c]; exact xa_jmp_mono (fun t y => h _ _ _ _ _ _ y) x) | (rw [if_neg c]; split at x <;> first | exact xa_jmp_mono (fun t y => h _ _ _ _ _ _ y) x | exact x.elim)))
    | (unfold xa_kir at x ⊢; split at x <;> first | exact x.elim | (unfold xa_ga at x ⊢; split at x <;> first | exact ⟨x.1, x.2.1, h _ _ _ _ _ _ x.2.2⟩ | exact x.elim) | (unfold xa_gq at x ⊢; split at x <;> first | (refine ⟨x.1, x.2.1, ?_⟩; have x := x.2.2; split at x <;> first | exact h _ _ _ _ _ _ x | exact x.elim) | exact x.elim))
    | (unfold xa_kr at x ⊢; split at x <;> first | exact x.elim | exact h _ _ _ _ _ _ x | (unfold xa_gl at x ⊢; split at x <;> first | exact ⟨x.1, h _ _ _ _ _ _ x.2⟩ | exact x.elim))
    | (unfold xa_kiir xa_pa at x ⊢; split at x <;> first | exact x.elim | (split at x <;> first | exact ⟨x.1, x.2.1, h _ _ _ _ _ _ x.2.2⟩ | exact x.elim))
    | (unfold xa_krir xa_pq at x ⊢; split at x <;> first | exact x.elim | (split at x <;> first | exact ⟨x.1, x.2.1, x.2.2.1, h _ _ _ _ _ _ x.2.2.2⟩ | exact x.elim))
    | (split at x <;> first | exact h _ _ _ _ _ _ x | exact x.elim | (unfold xa_ki at x ⊢; split at x <;> first | exact x.elim | exact ⟨x.1, x.2.1, x.2.2.1, h _ _ _ _ _ _ x.2.2.2⟩) | (unfold xa_kr xa_gf at x ⊢; split at x <;> first | exact x.elim | (split at x <;> first | exact x.elim | (refine ⟨x.1, ?_⟩; have x := x.2; split at x <;> first | exact h _ _ _ _ _ _ x | exact x.elim))) | (split at x <;> rename_i c <;> first | (rw [if_pos c]; unfold xa_kir xa_pf at x ⊢; split at x <;> first | exact x.elim | (split at x <;> first | exact ⟨x.1, x.2.1, h _ _ _ _ _ _ x.2.2⟩ | exact x.elim)) | (rw [if_neg c]; split at x <;> rename_i c <;> first | (rw [if_pos c]; unfold xa_kir xa_pf at x ⊢; split at x <;> first | exact x.elim | (refine ⟨x.1, ?_⟩; have x := x.2; split at x <;> first | exact ⟨x.1, x.2.1, h _ _ _ _ _ _ x.2.2⟩ | exact x.elim)) | (rw [if_neg c]; unfold xa_krr xa_pf at x ⊢; split at x <;> first | exact x.elim | (split at x <;> first | exact ⟨x.1, x.2.1, h _ _ _ _ _ _ x.2.2⟩ | exact x.elim)))))
end XaMono
theorem xa_F_mono {R R' : xa_J} (h : ∀ mid pc lv st M res, R mid pc lv st M res → R' mid pc lv st M res) {mid pc : Nat} {lv : xa_L} {st : List Value} {M : xa_M} {res : xa_Z} (x : xa_F R mid pc lv st M res) : xa_F R' mid pc lv st M res := by
  obtain ⟨q, ins, h1, h2, h3⟩ := x
  exact ⟨q, ins, h1, h2, xa_do_mono h h3⟩
theorem xa_E_in {mid pc : Nat} {lv : xa_L} {st : List Value} {M : xa_M} {res : xa_Z} (x : xa_F xa_E mid pc lv st M res) : xa_E mid pc lv st M res :=
  fun R hR => hR _ _ _ _ _ _ (xa_F_mono (fun _ _ _ _ _ _ y => y R hR) x)
theorem xa_E_out {mid pc : Nat} {lv : xa_L} {st : List Value} {M : xa_M} {res : xa_Z} (x : xa_E mid pc lv st M res) : xa_F xa_E mid pc lv st M res :=
  x (xa_F xa_E) (fun _ _ _ _ _ _ y => xa_F_mono (fun _ _ _ _ _ _ z => xa_E_in z) y)
/-- a row of the walk: an instruction -/
theorem xa_row {q : xa_MI} {ins : xa_I} {mid pc : Nat} {lv : xa_L} {st : List Value} {M : xa_M} {res : xa_Z} (h1 : xa_mt[mid]? = some q) (h2 : xa_fet q pc = some ins) : xa_E mid pc lv st M res ↔ xa_do xa_E q ins mid pc lv st M res := by
  constructor
  · intro x
    obtain ⟨q', i', a, b, c⟩ := xa_E_out x
    cases h1.symm.trans a
    cases h2.symm.trans b
    exact c
  · intro x
    exact xa_E_in ⟨q, ins, h1, h2, x⟩

