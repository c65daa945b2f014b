/-! longs kept in two locals -/
def q_hm (L : mv_Loc) (i : Nat) : Prop := i + 1 < L.length ∧ ∀ j w, i = j + 1 → L[j]? ≠ some (some (.long w))
theorem q_stl_eq {v : Value} {L : mv_Loc} {i : Nat} {K : mv_Loc → Prop} : mv_stL L i v K = (q_hm L i ∧ K ((L.set i (some v)).set (i + 1) none)) := propext (mv_stL_iff L i)
/-! code lists and step rows, written by program -/
section CD
variable {S : Nat → mv_Sp} {P : mv_Post} {L : mv_Loc} {st : List Value} {sh : mv_Shp} {M : mv_Mem} {c s : Nat}
-- 77: TurnedTablets.drawOf(II)I
def mk77 : mv_Cd := [
  (0, .ldc2_w 278, 3, [948, 7919]),
  (3, .iload_n 0, 1, []),
  (4, .i2l, 1, []),
  (5, .lmul, 1, []),
  (6, .ldc2_w 280, 3, [949, 6151]),
  (9, .iload_n 1, 1, []),
  (10, .i2l, 1, []),
  (11, .lmul, 1, []),
  (12, .ladd, 1, []),
  (13, .lconst 1, 1, []),
  (14, .ladd, 1, []),
  (15, .lstore_n 2, 1, []),
  (16, .lload_n 2, 1, []),
  (17, .lload_n 2, 1, []),
  (18, .lmul, 1, []),
  (19, .ldc2_w 282, 3, [950, 65521]),
  (22, .lrem, 1, []),
  (23, .l2i, 1, []),
  (24, .ireturn, 1, [0])]
def mr77 (S : Nat → mv_Sp) (P : mv_Post) : mv_Kt := mv_R mv_DF mk77 S (0, 0) P
theorem e77_0 : mr77 S P 0 L st sh M c s = (mr77 S P 3 L (.long (lN 7919) :: st) sh M c s) := propext (mv_R_iff (i := .ldc2_w 278) (len := 3) (ax := [948, 7919]) (by decide +kernel))
theorem e77_3 : mr77 S P 3 L st sh M c s = (q_isI (q_gv L 0) ∧ mr77 S P 4 L (q_gv L 0 :: st) sh M c s) := (propext (mv_R_iff (i := .iload_n 0) (len := 1) (ax := []) (by decide +kernel))).trans (q_ldI_eq (K := fun st => mr77 S P 4 L st sh M c s))
theorem e77_4 {x : Int32} : mr77 S P 4 L (.int x :: st) sh M c s = (mr77 S P 5 L (.long x.toInt64 :: st) sh M c s) := propext (mv_R_iff (i := .i2l) (len := 1) (ax := []) (by decide +kernel))
theorem e77_5 {y : Int64} {x : Int64} : mr77 S P 5 L (.long y :: .long x :: st) sh M c s = (mr77 S P 6 L (.long (x * y) :: st) sh M c s) := propext (mv_R_iff (i := .lmul) (len := 1) (ax := []) (by decide +kernel))
theorem e77_6 : mr77 S P 6 L st sh M c s = (mr77 S P 9 L (.long (lN 6151) :: st) sh M c s) := propext (mv_R_iff (i := .ldc2_w 280) (len := 3) (ax := [949, 6151]) (by decide +kernel))
theorem e77_9 : mr77 S P 9 L st sh M c s = (q_isI (q_gv L 1) ∧ mr77 S P 10 L (q_gv L 1 :: st) sh M c s) := (propext (mv_R_iff (i := .iload_n 1) (len := 1) (ax := []) (by decide +kernel))).trans (q_ldI_eq (K := fun st => mr77 S P 10 L st sh M c s))
theorem e77_10 {x : Int32} : mr77 S P 10 L (.int x :: st) sh M c s = (mr77 S P 11 L (.long x.toInt64 :: st) sh M c s) := propext (mv_R_iff (i := .i2l) (len := 1) (ax := []) (by decide +kernel))
theorem e77_11 {y : Int64} {x : Int64} : mr77 S P 11 L (.long y :: .long x :: st) sh M c s = (mr77 S P 12 L (.long (x * y) :: st) sh M c s) := propext (mv_R_iff (i := .lmul) (len := 1) (ax := []) (by decide +kernel))
theorem e77_12 {y : Int64} {x : Int64} : mr77 S P 12 L (.long y :: .long x :: st) sh M c s = (mr77 S P 13 L (.long (x + y) :: st) sh M c s) := propext (mv_R_iff (i := .ladd) (len := 1) (ax := []) (by decide +kernel))
theorem e77_13 : mr77 S P 13 L st sh M c s = (mr77 S P 14 L (.long (lN 1) :: st) sh M c s) := propext (mv_R_iff (i := .lconst 1) (len := 1) (ax := []) (by decide +kernel))
theorem e77_14 {y : Int64} {x : Int64} : mr77 S P 14 L (.long y :: .long x :: st) sh M c s = (mr77 S P 15 L (.long (x + y) :: st) sh M c s) := propext (mv_R_iff (i := .ladd) (len := 1) (ax := []) (by decide +kernel))
theorem e77_15 {x : Int64} : mr77 S P 15 L (.long x :: st) sh M c s = (q_hm L 2 ∧ mr77 S P 16 ((L.set 2 (some (.long x))).set 3 none) st sh M c s) := (propext (mv_R_iff (i := .lstore_n 2) (len := 1) (ax := []) (by decide +kernel))).trans (q_stl_eq (K := fun L => mr77 S P 16 L st sh M c s))
theorem e77_16 : mr77 S P 16 L st sh M c s = (q_isL (q_gv L 2) ∧ mr77 S P 17 L (q_gv L 2 :: st) sh M c s) := (propext (mv_R_iff (i := .lload_n 2) (len := 1) (ax := []) (by decide +kernel))).trans (q_ldL_eq (K := fun st => mr77 S P 17 L st sh M c s))
theorem e77_17 : mr77 S P 17 L st sh M c s = (q_isL (q_gv L 2) ∧ mr77 S P 18 L (q_gv L 2 :: st) sh M c s) := (propext (mv_R_iff (i := .lload_n 2) (len := 1) (ax := []) (by decide +kernel))).trans (q_ldL_eq (K := fun st => mr77 S P 18 L st sh M c s))
theorem e77_18 {y : Int64} {x : Int64} : mr77 S P 18 L (.long y :: .long x :: st) sh M c s = (mr77 S P 19 L (.long (x * y) :: st) sh M c s) := propext (mv_R_iff (i := .lmul) (len := 1) (ax := []) (by decide +kernel))
theorem e77_19 : mr77 S P 19 L st sh M c s = (mr77 S P 22 L (.long (lN 65521) :: st) sh M c s) := propext (mv_R_iff (i := .ldc2_w 282) (len := 3) (ax := [950, 65521]) (by decide +kernel))
theorem e77_22 {y : Int64} {x : Int64} : mr77 S P 22 L (.long y :: .long x :: st) sh M c s = (¬ y = lN 0 ∧ mr77 S P 23 L (.long (q_rl x y) :: st) sh M c s) := propext (mv_R_iff (i := .lrem) (len := 1) (ax := []) (by decide +kernel))
theorem e77_23 {x : Int64} : mr77 S P 23 L (.long x :: st) sh M c s = (mr77 S P 24 L (.int x.toInt32 :: st) sh M c s) := propext (mv_R_iff (i := .l2i) (len := 1) (ax := []) (by decide +kernel))
theorem e77_24 {x : Int32} : mr77 S P 24 L [.int x] sh M c s = (mv_nr 0 x ∧ P (some (.int x)) sh M) := propext (mv_R_iff (i := .ireturn) (len := 1) (ax := [0]) (by decide +kernel))
-- 79: TurnedTablets.bands(III)I
def mk79 : mv_Cd := [
  (0, .iload_n 1, 1, []),
  (1, .ifCond .lt 30, 3, [31]),
  (4, .iload_n 1, 1, []),
  (5, .sipush 9999, 3, []),
  (8, .if_icmp .gt 23, 3, [31]),
  (11, .iload_n 2, 1, []),
  (12, .iconst 1, 1, []),
  (13, .if_icmp .lt 18, 3, [31]),
  (16, .iload_n 2, 1, []),
  (17, .bipush 60, 2, []),
  (19, .if_icmp .gt 12, 3, [31]),
  (22, .iload_n 3, 1, []),
  (23, .ifCond .lt 8, 3, [31]),
  (26, .iload_n 3, 1, []),
  (27, .iconst 1, 1, []),
  (28, .if_icmp .le 5, 3, [33]),
  (31, .iconst (-1), 1, []),
  (32, .ireturn, 1, [0]),
  (33, .aload_n 0, 1, []),
  (34, .getfield 39, 3, [527, 0, 4, 4]),
  (37, .aload_n 0, 1, []),
  (38, .getfield 35, 3, [526, 0, 4, 3]),
  (41, .invokevirtual 189, 3, [1, 52, 2, 0, 0, 0, 683, 685, 33, 111, 686]),
  (44, .iconst 0, 1, []),
  (45, .istore 4, 2, []),
  (47, .iconst 0, 1, []),
  (48, .istore 5, 2, []),
  (50, .iconst 0, 1, []),
  (51, .istore 6, 2, []),
  (53, .iload 6, 2, []),
  (55, .iload_n 2, 1, []),
  (56, .if_icmp .ge 118, 3, [174]),
  (59, .iload_n 1, 1, []),
  (60, .iload 6, 2, []),
  (62, .invokestatic 261, 3, [3, 77, 2, 0, 0, 0, 0, 945, 946, 104, 947]),
  (65, .istore 7, 2, []),
  (67, .iload 7, 2, []),
  (69, .bipush 8, 2, []),
  (71, .irem, 1, []),
  (72, .bipush 7, 2, []),
  (74, .if_icmp .ne 14, 3, [88]),
  (77, .aload_n 0, 1, []),
  (78, .getfield 39, 3, [527, 0, 4, 4]),
  (81, .iconst 0, 1, []),
  (82, .putfield 148, 3, [239, 1, 0, 2, 0]),
  (85, .goto 83, 3, [168]),
  (88, .iload 7, 2, []),
  (90, .bipush 8, 2, []),
  (92, .irem, 1, []),
  (93, .bipush 6, 2, []),
  (95, .if_icmp .ne 12, 3, [107]),
  (98, .aload_n 0, 1, []),
  (99, .iload 7, 2, []),
  (101, .invokevirtual 264, 3, [0, 78, 2, 4, 0, 0, 0, 951, 953, 68, 104, 954]),
  (104, .goto 64, 3, [168]),
  (107, .aload_n 0, 1, []),
  (108, .getfield 39, 3, [527, 0, 4, 4]),
  (111, .getfield 148, 3, [239, 1, 0, 2]),
  (114, .bipush 24, 2, []),
  (116, .if_icmp .ge 52, 3, [168]),
  (119, .aload_n 0, 1, []),
  (120, .getfield 19, 3, [524, 0, 4, 1]),
  (123, .getfield 90, 3, [174, 1, 1, 1]),
  (126, .ifCond .le 42, 3, [168]),
  (129, .iload 5, 2, []),
  (131, .aload_n 0, 1, []),
  (132, .getfield 39, 3, [527, 0, 4, 4]),
  (135, .aload_n 0, 1, []),
  (136, .getfield 19, 3, [524, 0, 4, 1]),
  (139, .iload 7, 2, []),
  (141, .bipush 8, 2, []),
  (143, .idiv, 1, []),
  (144, .aload_n 0, 1, []),
  (145, .getfield 19, 3, [524, 0, 4, 1]),
  (148, .getfield 90, 3, [174, 1, 1, 1]),
  (151, .irem, 1, []),
  (152, .iload 7, 2, []),
  (154, .bipush 64, 2, []),
  (156, .idiv, 1, []),
  (157, .iconst 2, 1, []),
  (158, .irem, 1, []),
  (159, .invokevirtual 163, 3, [1, 70, 4, 0, 0, 0, 689, 691, 34, 111, 692]),
  (162, .iadd, 1, []),
  (163, .istore 5, 2, []),
  (165, .iinc 4 1, 3, []),
  (168, .iinc 6 1, 3, []),
  (171, .goto (-118), 3, [53]),
  (174, .iload_n 3, 1, []),
  (175, .ifCond .ne 8, 3, [183]),
  (178, .iload 4, 2, []),
  (180, .goto 5, 3, [185]),
  (183, .iload 5, 2, []),
  (185, .ireturn, 1, [0])]
def mr79 (S : Nat → mv_Sp) (P : mv_Post) : mv_Kt := mv_R mv_DF mk79 S (0, 0) P
theorem e79_0 : mr79 S P 0 L st sh M c s = (q_isI (q_gv L 1) ∧ mr79 S P 1 L (q_gv L 1 :: st) sh M c s) := (propext (mv_R_iff (i := .iload_n 1) (len := 1) (ax := []) (by decide +kernel))).trans (q_ldI_eq (K := fun st => mr79 S P 1 L st sh M c s))
theorem e79_1 {x : Int32} : mr79 S P 1 L (.int x :: st) sh M c s = (if x < nI 0 then mr79 S P 31 L st sh M c s else mr79 S P 4 L st sh M c s) := (propext (mv_R_iff (i := .ifCond .lt 30) (len := 3) (ax := [31]) (by decide +kernel))).trans (q_br)
theorem e79_4 : mr79 S P 4 L st sh M c s = (q_isI (q_gv L 1) ∧ mr79 S P 5 L (q_gv L 1 :: st) sh M c s) := (propext (mv_R_iff (i := .iload_n 1) (len := 1) (ax := []) (by decide +kernel))).trans (q_ldI_eq (K := fun st => mr79 S P 5 L st sh M c s))
theorem e79_5 : mr79 S P 5 L st sh M c s = (mr79 S P 8 L (.int (nI 9999) :: st) sh M c s) := propext (mv_R_iff (i := .sipush 9999) (len := 3) (ax := []) (by decide +kernel))
theorem e79_8 {y : Int32} {x : Int32} : mr79 S P 8 L (.int y :: .int x :: st) sh M c s = (if y < x then mr79 S P 31 L st sh M c s else mr79 S P 11 L st sh M c s) := (propext (mv_R_iff (i := .if_icmp .gt 23) (len := 3) (ax := [31]) (by decide +kernel))).trans (q_br)
theorem e79_11 : mr79 S P 11 L st sh M c s = (q_isI (q_gv L 2) ∧ mr79 S P 12 L (q_gv L 2 :: st) sh M c s) := (propext (mv_R_iff (i := .iload_n 2) (len := 1) (ax := []) (by decide +kernel))).trans (q_ldI_eq (K := fun st => mr79 S P 12 L st sh M c s))
theorem e79_12 : mr79 S P 12 L st sh M c s = (mr79 S P 13 L (.int (nI 1) :: st) sh M c s) := propext (mv_R_iff (i := .iconst 1) (len := 1) (ax := []) (by decide +kernel))
theorem e79_13 {y : Int32} {x : Int32} : mr79 S P 13 L (.int y :: .int x :: st) sh M c s = (if x < y then mr79 S P 31 L st sh M c s else mr79 S P 16 L st sh M c s) := (propext (mv_R_iff (i := .if_icmp .lt 18) (len := 3) (ax := [31]) (by decide +kernel))).trans (q_br)
theorem e79_16 : mr79 S P 16 L st sh M c s = (q_isI (q_gv L 2) ∧ mr79 S P 17 L (q_gv L 2 :: st) sh M c s) := (propext (mv_R_iff (i := .iload_n 2) (len := 1) (ax := []) (by decide +kernel))).trans (q_ldI_eq (K := fun st => mr79 S P 17 L st sh M c s))
theorem e79_17 : mr79 S P 17 L st sh M c s = (mr79 S P 19 L (.int (nI 60) :: st) sh M c s) := propext (mv_R_iff (i := .bipush 60) (len := 2) (ax := []) (by decide +kernel))
theorem e79_19 {y : Int32} {x : Int32} : mr79 S P 19 L (.int y :: .int x :: st) sh M c s = (if y < x then mr79 S P 31 L st sh M c s else mr79 S P 22 L st sh M c s) := (propext (mv_R_iff (i := .if_icmp .gt 12) (len := 3) (ax := [31]) (by decide +kernel))).trans (q_br)
theorem e79_22 : mr79 S P 22 L st sh M c s = (q_isI (q_gv L 3) ∧ mr79 S P 23 L (q_gv L 3 :: st) sh M c s) := (propext (mv_R_iff (i := .iload_n 3) (len := 1) (ax := []) (by decide +kernel))).trans (q_ldI_eq (K := fun st => mr79 S P 23 L st sh M c s))
theorem e79_23 {x : Int32} : mr79 S P 23 L (.int x :: st) sh M c s = (if x < nI 0 then mr79 S P 31 L st sh M c s else mr79 S P 26 L st sh M c s) := (propext (mv_R_iff (i := .ifCond .lt 8) (len := 3) (ax := [31]) (by decide +kernel))).trans (q_br)
theorem e79_26 : mr79 S P 26 L st sh M c s = (q_isI (q_gv L 3) ∧ mr79 S P 27 L (q_gv L 3 :: st) sh M c s) := (propext (mv_R_iff (i := .iload_n 3) (len := 1) (ax := []) (by decide +kernel))).trans (q_ldI_eq (K := fun st => mr79 S P 27 L st sh M c s))
theorem e79_27 : mr79 S P 27 L st sh M c s = (mr79 S P 28 L (.int (nI 1) :: st) sh M c s) := propext (mv_R_iff (i := .iconst 1) (len := 1) (ax := []) (by decide +kernel))
theorem e79_28 {y : Int32} {x : Int32} : mr79 S P 28 L (.int y :: .int x :: st) sh M c s = (if x ≤ y then mr79 S P 33 L st sh M c s else mr79 S P 31 L st sh M c s) := (propext (mv_R_iff (i := .if_icmp .le 5) (len := 3) (ax := [33]) (by decide +kernel))).trans (q_br)
theorem e79_31 : mr79 S P 31 L st sh M c s = (mr79 S P 32 L (.int (Int32.ofInt (-1)) :: st) sh M c s) := propext (mv_R_iff (i := .iconst (-1)) (len := 1) (ax := []) (by decide +kernel))
theorem e79_32 {x : Int32} : mr79 S P 32 L [.int x] sh M c s = (mv_nr 0 x ∧ P (some (.int x)) sh M) := propext (mv_R_iff (i := .ireturn) (len := 1) (ax := [0]) (by decide +kernel))
theorem e79_33 : mr79 S P 33 L st sh M c s = (q_isA (q_gv L 0) ∧ mr79 S P 34 L (q_gv L 0 :: st) sh M c s) := (propext (mv_R_iff (i := .aload_n 0) (len := 1) (ax := []) (by decide +kernel))).trans (q_ldA_eq (K := fun st => mr79 S P 34 L st sh M c s))
theorem e79_34 {a : Nat} : mr79 S P 34 L (.ref a :: st) sh M c s = (mv_kgf sh M a 4 4 (mr79 S P) 37 L st c s) := propext (mv_R_iff (i := .getfield 39) (len := 3) (ax := [527, 0, 4, 4]) (by decide +kernel))
theorem e79_37 : mr79 S P 37 L st sh M c s = (q_isA (q_gv L 0) ∧ mr79 S P 38 L (q_gv L 0 :: st) sh M c s) := (propext (mv_R_iff (i := .aload_n 0) (len := 1) (ax := []) (by decide +kernel))).trans (q_ldA_eq (K := fun st => mr79 S P 38 L st sh M c s))
theorem e79_38 {a : Nat} : mr79 S P 38 L (.ref a :: st) sh M c s = (mv_kgf sh M a 4 3 (mr79 S P) 41 L st c s) := propext (mv_R_iff (i := .getfield 35) (len := 3) (ax := [526, 0, 4, 3]) (by decide +kernel))
theorem e79_41 {v2 : Value} {v1 : Value} : mr79 S P 41 L (v2 :: v1 :: st) sh M c s = (mv_ss st ≤ 8 ∧ c ≤ 0 ∧ s ≤ 0 ∧ mv_isO sh (some v1) 0 ∧ mv_kal S 52 [v1, v2] sh M (mr79 S P) 44 L st c s) := (propext (mv_R_iff (i := .invokevirtual 189) (len := 3) (ax := [1, 52, 2, 0, 0, 0, 683, 685, 33, 111, 686]) (by decide +kernel))).trans (q_call1)
theorem e79_44 : mr79 S P 44 L st sh M c s = (mr79 S P 45 L (.int (nI 0) :: st) sh M c s) := propext (mv_R_iff (i := .iconst 0) (len := 1) (ax := []) (by decide +kernel))
theorem e79_45 {x : Int32} : mr79 S P 45 L (.int x :: st) sh M c s = (q_hs L 4 ∧ mr79 S P 47 (L.set 4 (some (.int x))) st sh M c s) := (propext (mv_R_iff (i := .istore 4) (len := 2) (ax := []) (by decide +kernel))).trans (q_st_eq (K := fun L => mr79 S P 47 L st sh M c s))
theorem e79_47 : mr79 S P 47 L st sh M c s = (mr79 S P 48 L (.int (nI 0) :: st) sh M c s) := propext (mv_R_iff (i := .iconst 0) (len := 1) (ax := []) (by decide +kernel))
theorem e79_48 {x : Int32} : mr79 S P 48 L (.int x :: st) sh M c s = (q_hs L 5 ∧ mr79 S P 50 (L.set 5 (some (.int x))) st sh M c s) := (propext (mv_R_iff (i := .istore 5) (len := 2) (ax := []) (by decide +kernel))).trans (q_st_eq (K := fun L => mr79 S P 50 L st sh M c s))
theorem e79_50 : mr79 S P 50 L st sh M c s = (mr79 S P 51 L (.int (nI 0) :: st) sh M c s) := propext (mv_R_iff (i := .iconst 0) (len := 1) (ax := []) (by decide +kernel))
theorem e79_51 {x : Int32} : mr79 S P 51 L (.int x :: st) sh M c s = (q_hs L 6 ∧ mr79 S P 53 (L.set 6 (some (.int x))) st sh M c s) := (propext (mv_R_iff (i := .istore 6) (len := 2) (ax := []) (by decide +kernel))).trans (q_st_eq (K := fun L => mr79 S P 53 L st sh M c s))
theorem e79_53 : mr79 S P 53 L st sh M c s = (q_isI (q_gv L 6) ∧ mr79 S P 55 L (q_gv L 6 :: st) sh M c s) := (propext (mv_R_iff (i := .iload 6) (len := 2) (ax := []) (by decide +kernel))).trans (q_ldI_eq (K := fun st => mr79 S P 55 L st sh M c s))
theorem e79_55 : mr79 S P 55 L st sh M c s = (q_isI (q_gv L 2) ∧ mr79 S P 56 L (q_gv L 2 :: st) sh M c s) := (propext (mv_R_iff (i := .iload_n 2) (len := 1) (ax := []) (by decide +kernel))).trans (q_ldI_eq (K := fun st => mr79 S P 56 L st sh M c s))
theorem e79_56 {y : Int32} {x : Int32} : mr79 S P 56 L (.int y :: .int x :: st) sh M c s = (if y ≤ x then mr79 S P 174 L st sh M c s else mr79 S P 59 L st sh M c s) := (propext (mv_R_iff (i := .if_icmp .ge 118) (len := 3) (ax := [174]) (by decide +kernel))).trans (q_br)
theorem e79_59 : mr79 S P 59 L st sh M c s = (q_isI (q_gv L 1) ∧ mr79 S P 60 L (q_gv L 1 :: st) sh M c s) := (propext (mv_R_iff (i := .iload_n 1) (len := 1) (ax := []) (by decide +kernel))).trans (q_ldI_eq (K := fun st => mr79 S P 60 L st sh M c s))
theorem e79_60 : mr79 S P 60 L st sh M c s = (q_isI (q_gv L 6) ∧ mr79 S P 62 L (q_gv L 6 :: st) sh M c s) := (propext (mv_R_iff (i := .iload 6) (len := 2) (ax := []) (by decide +kernel))).trans (q_ldI_eq (K := fun st => mr79 S P 62 L st sh M c s))
theorem e79_62 {v2 : Value} {v1 : Value} : mr79 S P 62 L (v2 :: v1 :: st) sh M c s = (mv_ss st ≤ 8 ∧ c ≤ 0 ∧ s ≤ 0 ∧ True ∧ mv_kal S 77 [v1, v2] sh M (mr79 S P) 65 L st c s) := (propext (mv_R_iff (i := .invokestatic 261) (len := 3) (ax := [3, 77, 2, 0, 0, 0, 0, 945, 946, 104, 947]) (by decide +kernel))).trans (q_call3)
theorem e79_65 {x : Int32} : mr79 S P 65 L (.int x :: st) sh M c s = (q_hs L 7 ∧ mr79 S P 67 (L.set 7 (some (.int x))) st sh M c s) := (propext (mv_R_iff (i := .istore 7) (len := 2) (ax := []) (by decide +kernel))).trans (q_st_eq (K := fun L => mr79 S P 67 L st sh M c s))
theorem e79_67 : mr79 S P 67 L st sh M c s = (q_isI (q_gv L 7) ∧ mr79 S P 69 L (q_gv L 7 :: st) sh M c s) := (propext (mv_R_iff (i := .iload 7) (len := 2) (ax := []) (by decide +kernel))).trans (q_ldI_eq (K := fun st => mr79 S P 69 L st sh M c s))
theorem e79_69 : mr79 S P 69 L st sh M c s = (mr79 S P 71 L (.int (nI 8) :: st) sh M c s) := propext (mv_R_iff (i := .bipush 8) (len := 2) (ax := []) (by decide +kernel))
theorem e79_71 {y : Int32} {x : Int32} : mr79 S P 71 L (.int y :: .int x :: st) sh M c s = (¬ y = nI 0 ∧ mr79 S P 72 L (.int (q_rm x y) :: st) sh M c s) := propext (mv_R_iff (i := .irem) (len := 1) (ax := []) (by decide +kernel))
theorem e79_72 : mr79 S P 72 L st sh M c s = (mr79 S P 74 L (.int (nI 7) :: st) sh M c s) := propext (mv_R_iff (i := .bipush 7) (len := 2) (ax := []) (by decide +kernel))
theorem e79_74 {y : Int32} {x : Int32} : mr79 S P 74 L (.int y :: .int x :: st) sh M c s = (if x = y then mr79 S P 77 L st sh M c s else mr79 S P 88 L st sh M c s) := (propext (mv_R_iff (i := .if_icmp .ne 14) (len := 3) (ax := [88]) (by decide +kernel))).trans (q_br')
theorem e79_77 : mr79 S P 77 L st sh M c s = (q_isA (q_gv L 0) ∧ mr79 S P 78 L (q_gv L 0 :: st) sh M c s) := (propext (mv_R_iff (i := .aload_n 0) (len := 1) (ax := []) (by decide +kernel))).trans (q_ldA_eq (K := fun st => mr79 S P 78 L st sh M c s))
theorem e79_78 {a : Nat} : mr79 S P 78 L (.ref a :: st) sh M c s = (mv_kgf sh M a 4 4 (mr79 S P) 81 L st c s) := propext (mv_R_iff (i := .getfield 39) (len := 3) (ax := [527, 0, 4, 4]) (by decide +kernel))
theorem e79_81 : mr79 S P 81 L st sh M c s = (mr79 S P 82 L (.int (nI 0) :: st) sh M c s) := propext (mv_R_iff (i := .iconst 0) (len := 1) (ax := []) (by decide +kernel))
theorem e79_82 {x : Int32} {a : Nat} : mr79 S P 82 L (.int x :: .ref a :: st) sh M c s = (True ∧ mv_kpf sh M a 0 2 x (mr79 S P) 85 L st c s) := propext (mv_R_iff (i := .putfield 148) (len := 3) (ax := [239, 1, 0, 2, 0]) (by decide +kernel))
theorem e79_85 : mr79 S P 85 L st sh M c s = (mr79 S P 168 L st sh M c s) := propext (mv_R_iff (i := .goto 83) (len := 3) (ax := [168]) (by decide +kernel))
theorem e79_88 : mr79 S P 88 L st sh M c s = (q_isI (q_gv L 7) ∧ mr79 S P 90 L (q_gv L 7 :: st) sh M c s) := (propext (mv_R_iff (i := .iload 7) (len := 2) (ax := []) (by decide +kernel))).trans (q_ldI_eq (K := fun st => mr79 S P 90 L st sh M c s))
theorem e79_90 : mr79 S P 90 L st sh M c s = (mr79 S P 92 L (.int (nI 8) :: st) sh M c s) := propext (mv_R_iff (i := .bipush 8) (len := 2) (ax := []) (by decide +kernel))
theorem e79_92 {y : Int32} {x : Int32} : mr79 S P 92 L (.int y :: .int x :: st) sh M c s = (¬ y = nI 0 ∧ mr79 S P 93 L (.int (q_rm x y) :: st) sh M c s) := propext (mv_R_iff (i := .irem) (len := 1) (ax := []) (by decide +kernel))
theorem e79_93 : mr79 S P 93 L st sh M c s = (mr79 S P 95 L (.int (nI 6) :: st) sh M c s) := propext (mv_R_iff (i := .bipush 6) (len := 2) (ax := []) (by decide +kernel))
theorem e79_95 {y : Int32} {x : Int32} : mr79 S P 95 L (.int y :: .int x :: st) sh M c s = (if x = y then mr79 S P 98 L st sh M c s else mr79 S P 107 L st sh M c s) := (propext (mv_R_iff (i := .if_icmp .ne 12) (len := 3) (ax := [107]) (by decide +kernel))).trans (q_br')
theorem e79_98 : mr79 S P 98 L st sh M c s = (q_isA (q_gv L 0) ∧ mr79 S P 99 L (q_gv L 0 :: st) sh M c s) := (propext (mv_R_iff (i := .aload_n 0) (len := 1) (ax := []) (by decide +kernel))).trans (q_ldA_eq (K := fun st => mr79 S P 99 L st sh M c s))
theorem e79_99 : mr79 S P 99 L st sh M c s = (q_isI (q_gv L 7) ∧ mr79 S P 101 L (q_gv L 7 :: st) sh M c s) := (propext (mv_R_iff (i := .iload 7) (len := 2) (ax := []) (by decide +kernel))).trans (q_ldI_eq (K := fun st => mr79 S P 101 L st sh M c s))
theorem e79_101 {v2 : Value} {v1 : Value} : mr79 S P 101 L (v2 :: v1 :: st) sh M c s = (mv_ss st ≤ 8 ∧ c ≤ 0 ∧ s ≤ 0 ∧ mv_isO sh (some v1) 4 ∧ mv_kal S 78 [v1, v2] sh M (mr79 S P) 104 L st c s) := (propext (mv_R_iff (i := .invokevirtual 264) (len := 3) (ax := [0, 78, 2, 4, 0, 0, 0, 951, 953, 68, 104, 954]) (by decide +kernel))).trans (q_call0)
theorem e79_104 : mr79 S P 104 L st sh M c s = (mr79 S P 168 L st sh M c s) := propext (mv_R_iff (i := .goto 64) (len := 3) (ax := [168]) (by decide +kernel))
theorem e79_107 : mr79 S P 107 L st sh M c s = (q_isA (q_gv L 0) ∧ mr79 S P 108 L (q_gv L 0 :: st) sh M c s) := (propext (mv_R_iff (i := .aload_n 0) (len := 1) (ax := []) (by decide +kernel))).trans (q_ldA_eq (K := fun st => mr79 S P 108 L st sh M c s))
theorem e79_108 {a : Nat} : mr79 S P 108 L (.ref a :: st) sh M c s = (mv_kgf sh M a 4 4 (mr79 S P) 111 L st c s) := propext (mv_R_iff (i := .getfield 39) (len := 3) (ax := [527, 0, 4, 4]) (by decide +kernel))
theorem e79_111 {a : Nat} : mr79 S P 111 L (.ref a :: st) sh M c s = (mv_kgf sh M a 0 2 (mr79 S P) 114 L st c s) := propext (mv_R_iff (i := .getfield 148) (len := 3) (ax := [239, 1, 0, 2]) (by decide +kernel))
theorem e79_114 : mr79 S P 114 L st sh M c s = (mr79 S P 116 L (.int (nI 24) :: st) sh M c s) := propext (mv_R_iff (i := .bipush 24) (len := 2) (ax := []) (by decide +kernel))
theorem e79_116 {y : Int32} {x : Int32} : mr79 S P 116 L (.int y :: .int x :: st) sh M c s = (if y ≤ x then mr79 S P 168 L st sh M c s else mr79 S P 119 L st sh M c s) := (propext (mv_R_iff (i := .if_icmp .ge 52) (len := 3) (ax := [168]) (by decide +kernel))).trans (q_br)
theorem e79_119 : mr79 S P 119 L st sh M c s = (q_isA (q_gv L 0) ∧ mr79 S P 120 L (q_gv L 0 :: st) sh M c s) := (propext (mv_R_iff (i := .aload_n 0) (len := 1) (ax := []) (by decide +kernel))).trans (q_ldA_eq (K := fun st => mr79 S P 120 L st sh M c s))
theorem e79_120 {a : Nat} : mr79 S P 120 L (.ref a :: st) sh M c s = (mv_kgf sh M a 4 1 (mr79 S P) 123 L st c s) := propext (mv_R_iff (i := .getfield 19) (len := 3) (ax := [524, 0, 4, 1]) (by decide +kernel))
theorem e79_123 {a : Nat} : mr79 S P 123 L (.ref a :: st) sh M c s = (mv_kgf sh M a 1 1 (mr79 S P) 126 L st c s) := propext (mv_R_iff (i := .getfield 90) (len := 3) (ax := [174, 1, 1, 1]) (by decide +kernel))
theorem e79_126 {x : Int32} : mr79 S P 126 L (.int x :: st) sh M c s = (if x ≤ nI 0 then mr79 S P 168 L st sh M c s else mr79 S P 129 L st sh M c s) := (propext (mv_R_iff (i := .ifCond .le 42) (len := 3) (ax := [168]) (by decide +kernel))).trans (q_br)
theorem e79_129 : mr79 S P 129 L st sh M c s = (q_isI (q_gv L 5) ∧ mr79 S P 131 L (q_gv L 5 :: st) sh M c s) := (propext (mv_R_iff (i := .iload 5) (len := 2) (ax := []) (by decide +kernel))).trans (q_ldI_eq (K := fun st => mr79 S P 131 L st sh M c s))
theorem e79_131 : mr79 S P 131 L st sh M c s = (q_isA (q_gv L 0) ∧ mr79 S P 132 L (q_gv L 0 :: st) sh M c s) := (propext (mv_R_iff (i := .aload_n 0) (len := 1) (ax := []) (by decide +kernel))).trans (q_ldA_eq (K := fun st => mr79 S P 132 L st sh M c s))
theorem e79_132 {a : Nat} : mr79 S P 132 L (.ref a :: st) sh M c s = (mv_kgf sh M a 4 4 (mr79 S P) 135 L st c s) := propext (mv_R_iff (i := .getfield 39) (len := 3) (ax := [527, 0, 4, 4]) (by decide +kernel))
theorem e79_135 : mr79 S P 135 L st sh M c s = (q_isA (q_gv L 0) ∧ mr79 S P 136 L (q_gv L 0 :: st) sh M c s) := (propext (mv_R_iff (i := .aload_n 0) (len := 1) (ax := []) (by decide +kernel))).trans (q_ldA_eq (K := fun st => mr79 S P 136 L st sh M c s))
theorem e79_136 {a : Nat} : mr79 S P 136 L (.ref a :: st) sh M c s = (mv_kgf sh M a 4 1 (mr79 S P) 139 L st c s) := propext (mv_R_iff (i := .getfield 19) (len := 3) (ax := [524, 0, 4, 1]) (by decide +kernel))
theorem e79_139 : mr79 S P 139 L st sh M c s = (q_isI (q_gv L 7) ∧ mr79 S P 141 L (q_gv L 7 :: st) sh M c s) := (propext (mv_R_iff (i := .iload 7) (len := 2) (ax := []) (by decide +kernel))).trans (q_ldI_eq (K := fun st => mr79 S P 141 L st sh M c s))
theorem e79_141 : mr79 S P 141 L st sh M c s = (mr79 S P 143 L (.int (nI 8) :: st) sh M c s) := propext (mv_R_iff (i := .bipush 8) (len := 2) (ax := []) (by decide +kernel))
theorem e79_143 {y : Int32} {x : Int32} : mr79 S P 143 L (.int y :: .int x :: st) sh M c s = (¬ y = nI 0 ∧ mr79 S P 144 L (.int (x / y) :: st) sh M c s) := propext (mv_R_iff (i := .idiv) (len := 1) (ax := []) (by decide +kernel))
theorem e79_144 : mr79 S P 144 L st sh M c s = (q_isA (q_gv L 0) ∧ mr79 S P 145 L (q_gv L 0 :: st) sh M c s) := (propext (mv_R_iff (i := .aload_n 0) (len := 1) (ax := []) (by decide +kernel))).trans (q_ldA_eq (K := fun st => mr79 S P 145 L st sh M c s))
theorem e79_145 {a : Nat} : mr79 S P 145 L (.ref a :: st) sh M c s = (mv_kgf sh M a 4 1 (mr79 S P) 148 L st c s) := propext (mv_R_iff (i := .getfield 19) (len := 3) (ax := [524, 0, 4, 1]) (by decide +kernel))
theorem e79_148 {a : Nat} : mr79 S P 148 L (.ref a :: st) sh M c s = (mv_kgf sh M a 1 1 (mr79 S P) 151 L st c s) := propext (mv_R_iff (i := .getfield 90) (len := 3) (ax := [174, 1, 1, 1]) (by decide +kernel))
theorem e79_151 {y : Int32} {x : Int32} : mr79 S P 151 L (.int y :: .int x :: st) sh M c s = (¬ y = nI 0 ∧ mr79 S P 152 L (.int (q_rm x y) :: st) sh M c s) := propext (mv_R_iff (i := .irem) (len := 1) (ax := []) (by decide +kernel))
theorem e79_152 : mr79 S P 152 L st sh M c s = (q_isI (q_gv L 7) ∧ mr79 S P 154 L (q_gv L 7 :: st) sh M c s) := (propext (mv_R_iff (i := .iload 7) (len := 2) (ax := []) (by decide +kernel))).trans (q_ldI_eq (K := fun st => mr79 S P 154 L st sh M c s))
theorem e79_154 : mr79 S P 154 L st sh M c s = (mr79 S P 156 L (.int (nI 64) :: st) sh M c s) := propext (mv_R_iff (i := .bipush 64) (len := 2) (ax := []) (by decide +kernel))
theorem e79_156 {y : Int32} {x : Int32} : mr79 S P 156 L (.int y :: .int x :: st) sh M c s = (¬ y = nI 0 ∧ mr79 S P 157 L (.int (x / y) :: st) sh M c s) := propext (mv_R_iff (i := .idiv) (len := 1) (ax := []) (by decide +kernel))
theorem e79_157 : mr79 S P 157 L st sh M c s = (mr79 S P 158 L (.int (nI 2) :: st) sh M c s) := propext (mv_R_iff (i := .iconst 2) (len := 1) (ax := []) (by decide +kernel))
theorem e79_158 {y : Int32} {x : Int32} : mr79 S P 158 L (.int y :: .int x :: st) sh M c s = (¬ y = nI 0 ∧ mr79 S P 159 L (.int (q_rm x y) :: st) sh M c s) := propext (mv_R_iff (i := .irem) (len := 1) (ax := []) (by decide +kernel))
theorem e79_159 {v4 : Value} {v3 : Value} {v2 : Value} {v1 : Value} : mr79 S P 159 L (v4 :: v3 :: v2 :: v1 :: st) sh M c s = (mv_ss st ≤ 8 ∧ c ≤ 0 ∧ s ≤ 0 ∧ mv_isO sh (some v1) 0 ∧ mv_kal S 70 [v1, v2, v3, v4] sh M (mr79 S P) 162 L st c s) := (propext (mv_R_iff (i := .invokevirtual 163) (len := 3) (ax := [1, 70, 4, 0, 0, 0, 689, 691, 34, 111, 692]) (by decide +kernel))).trans (q_call1)
theorem e79_162 {y : Int32} {x : Int32} : mr79 S P 162 L (.int y :: .int x :: st) sh M c s = (mr79 S P 163 L (.int (x + y) :: st) sh M c s) := propext (mv_R_iff (i := .iadd) (len := 1) (ax := []) (by decide +kernel))
theorem e79_163 {x : Int32} : mr79 S P 163 L (.int x :: st) sh M c s = (q_hs L 5 ∧ mr79 S P 165 (L.set 5 (some (.int x))) st sh M c s) := (propext (mv_R_iff (i := .istore 5) (len := 2) (ax := []) (by decide +kernel))).trans (q_st_eq (K := fun L => mr79 S P 165 L st sh M c s))
theorem e79_165 : mr79 S P 165 L st sh M c s = ((q_isI (q_gv L 4) ∧ q_hs L 4) ∧ mr79 S P 168 (L.set 4 (some (q_inc (q_gv L 4) (nI 1)))) st sh M c s) := (propext (mv_R_iff (i := .iinc 4 1) (len := 3) (ax := []) (by decide +kernel))).trans (q_inc_eq (K := fun L => mr79 S P 168 L st sh M c s))
theorem e79_168 : mr79 S P 168 L st sh M c s = ((q_isI (q_gv L 6) ∧ q_hs L 6) ∧ mr79 S P 171 (L.set 6 (some (q_inc (q_gv L 6) (nI 1)))) st sh M c s) := (propext (mv_R_iff (i := .iinc 6 1) (len := 3) (ax := []) (by decide +kernel))).trans (q_inc_eq (K := fun L => mr79 S P 171 L st sh M c s))
theorem e79_171 : mr79 S P 171 L st sh M c s = (mr79 S P 53 L st sh M c s) := propext (mv_R_iff (i := .goto (-118)) (len := 3) (ax := [53]) (by decide +kernel))
theorem e79_174 : mr79 S P 174 L st sh M c s = (q_isI (q_gv L 3) ∧ mr79 S P 175 L (q_gv L 3 :: st) sh M c s) := (propext (mv_R_iff (i := .iload_n 3) (len := 1) (ax := []) (by decide +kernel))).trans (q_ldI_eq (K := fun st => mr79 S P 175 L st sh M c s))
theorem e79_175 {x : Int32} : mr79 S P 175 L (.int x :: st) sh M c s = (if x = nI 0 then mr79 S P 178 L st sh M c s else mr79 S P 183 L st sh M c s) := (propext (mv_R_iff (i := .ifCond .ne 8) (len := 3) (ax := [183]) (by decide +kernel))).trans (q_br')
theorem e79_178 : mr79 S P 178 L st sh M c s = (q_isI (q_gv L 4) ∧ mr79 S P 180 L (q_gv L 4 :: st) sh M c s) := (propext (mv_R_iff (i := .iload 4) (len := 2) (ax := []) (by decide +kernel))).trans (q_ldI_eq (K := fun st => mr79 S P 180 L st sh M c s))
theorem e79_180 : mr79 S P 180 L st sh M c s = (mr79 S P 185 L st sh M c s) := propext (mv_R_iff (i := .goto 5) (len := 3) (ax := [185]) (by decide +kernel))
theorem e79_183 : mr79 S P 183 L st sh M c s = (q_isI (q_gv L 5) ∧ mr79 S P 185 L (q_gv L 5 :: st) sh M c s) := (propext (mv_R_iff (i := .iload 5) (len := 2) (ax := []) (by decide +kernel))).trans (q_ldI_eq (K := fun st => mr79 S P 185 L st sh M c s))
theorem e79_185 {x : Int32} : mr79 S P 185 L [.int x] sh M c s = (mv_nr 0 x ∧ P (some (.int x)) sh M) := propext (mv_R_iff (i := .ireturn) (len := 1) (ax := [0]) (by decide +kernel))
-- 90: TurnedTablets.can()I
def mk90 : mv_Cd := [
  (0, .aload_n 0, 1, []),
  (1, .getfield 56, 3, [535, 0, 4, 12]),
  (4, .aload_n 0, 1, []),
  (5, .getfield 19, 3, [524, 0, 4, 1]),
  (8, .aload_n 0, 1, []),
  (9, .getfield 35, 3, [526, 0, 4, 3]),
  (12, .invokevirtual 139, 3, [1, 66, 1, 0, 0, 0, 644, 646, 27, 111, 647]),
  (15, .aload_n 0, 1, []),
  (16, .invokevirtual 220, 3, [0, 72, 1, 4, 0, 0, 0, 847, 849, 55, 104, 850]),
  (19, .invokevirtual 223, 3, [1, 87, 4, 3, 0, 0, 851, 853, 56, 112, 854]),
  (22, .aload_n 0, 1, []),
  (23, .getfield 56, 3, [535, 0, 4, 12]),
  (26, .aload_n 0, 1, []),
  (27, .getfield 19, 3, [524, 0, 4, 1]),
  (30, .invokevirtual 227, 3, [1, 89, 2, 3, 0, 0, 859, 861, 58, 112, 862]),
  (33, .ireturn, 1, [0])]
def mr90 (S : Nat → mv_Sp) (P : mv_Post) : mv_Kt := mv_R mv_DF mk90 S (0, 0) P
theorem e90_0 : mr90 S P 0 L st sh M c s = (q_isA (q_gv L 0) ∧ mr90 S P 1 L (q_gv L 0 :: st) sh M c s) := (propext (mv_R_iff (i := .aload_n 0) (len := 1) (ax := []) (by decide +kernel))).trans (q_ldA_eq (K := fun st => mr90 S P 1 L st sh M c s))
theorem e90_1 {a : Nat} : mr90 S P 1 L (.ref a :: st) sh M c s = (mv_kgf sh M a 4 12 (mr90 S P) 4 L st c s) := propext (mv_R_iff (i := .getfield 56) (len := 3) (ax := [535, 0, 4, 12]) (by decide +kernel))
theorem e90_4 : mr90 S P 4 L st sh M c s = (q_isA (q_gv L 0) ∧ mr90 S P 5 L (q_gv L 0 :: st) sh M c s) := (propext (mv_R_iff (i := .aload_n 0) (len := 1) (ax := []) (by decide +kernel))).trans (q_ldA_eq (K := fun st => mr90 S P 5 L st sh M c s))
theorem e90_5 {a : Nat} : mr90 S P 5 L (.ref a :: st) sh M c s = (mv_kgf sh M a 4 1 (mr90 S P) 8 L st c s) := propext (mv_R_iff (i := .getfield 19) (len := 3) (ax := [524, 0, 4, 1]) (by decide +kernel))
theorem e90_8 : mr90 S P 8 L st sh M c s = (q_isA (q_gv L 0) ∧ mr90 S P 9 L (q_gv L 0 :: st) sh M c s) := (propext (mv_R_iff (i := .aload_n 0) (len := 1) (ax := []) (by decide +kernel))).trans (q_ldA_eq (K := fun st => mr90 S P 9 L st sh M c s))
theorem e90_9 {a : Nat} : mr90 S P 9 L (.ref a :: st) sh M c s = (mv_kgf sh M a 4 3 (mr90 S P) 12 L st c s) := propext (mv_R_iff (i := .getfield 35) (len := 3) (ax := [526, 0, 4, 3]) (by decide +kernel))
theorem e90_12 {v1 : Value} : mr90 S P 12 L (v1 :: st) sh M c s = (mv_ss st ≤ 8 ∧ c ≤ 0 ∧ s ≤ 0 ∧ mv_isO sh (some v1) 0 ∧ mv_kal S 66 [v1] sh M (mr90 S P) 15 L st c s) := (propext (mv_R_iff (i := .invokevirtual 139) (len := 3) (ax := [1, 66, 1, 0, 0, 0, 644, 646, 27, 111, 647]) (by decide +kernel))).trans (q_call1)
theorem e90_15 : mr90 S P 15 L st sh M c s = (q_isA (q_gv L 0) ∧ mr90 S P 16 L (q_gv L 0 :: st) sh M c s) := (propext (mv_R_iff (i := .aload_n 0) (len := 1) (ax := []) (by decide +kernel))).trans (q_ldA_eq (K := fun st => mr90 S P 16 L st sh M c s))
theorem e90_16 {v1 : Value} : mr90 S P 16 L (v1 :: st) sh M c s = (mv_ss st ≤ 8 ∧ c ≤ 0 ∧ s ≤ 0 ∧ mv_isO sh (some v1) 4 ∧ mv_kal S 72 [v1] sh M (mr90 S P) 19 L st c s) := (propext (mv_R_iff (i := .invokevirtual 220) (len := 3) (ax := [0, 72, 1, 4, 0, 0, 0, 847, 849, 55, 104, 850]) (by decide +kernel))).trans (q_call0)
theorem e90_19 {v4 : Value} {v3 : Value} {v2 : Value} {v1 : Value} : mr90 S P 19 L (v4 :: v3 :: v2 :: v1 :: st) sh M c s = (mv_ss st ≤ 8 ∧ c ≤ 0 ∧ s ≤ 0 ∧ mv_isO sh (some v1) 3 ∧ mv_kal S 87 [v1, v2, v3, v4] sh M (mr90 S P) 22 L st c s) := (propext (mv_R_iff (i := .invokevirtual 223) (len := 3) (ax := [1, 87, 4, 3, 0, 0, 851, 853, 56, 112, 854]) (by decide +kernel))).trans (q_call1)
theorem e90_22 : mr90 S P 22 L st sh M c s = (q_isA (q_gv L 0) ∧ mr90 S P 23 L (q_gv L 0 :: st) sh M c s) := (propext (mv_R_iff (i := .aload_n 0) (len := 1) (ax := []) (by decide +kernel))).trans (q_ldA_eq (K := fun st => mr90 S P 23 L st sh M c s))
theorem e90_23 {a : Nat} : mr90 S P 23 L (.ref a :: st) sh M c s = (mv_kgf sh M a 4 12 (mr90 S P) 26 L st c s) := propext (mv_R_iff (i := .getfield 56) (len := 3) (ax := [535, 0, 4, 12]) (by decide +kernel))
theorem e90_26 : mr90 S P 26 L st sh M c s = (q_isA (q_gv L 0) ∧ mr90 S P 27 L (q_gv L 0 :: st) sh M c s) := (propext (mv_R_iff (i := .aload_n 0) (len := 1) (ax := []) (by decide +kernel))).trans (q_ldA_eq (K := fun st => mr90 S P 27 L st sh M c s))
theorem e90_27 {a : Nat} : mr90 S P 27 L (.ref a :: st) sh M c s = (mv_kgf sh M a 4 1 (mr90 S P) 30 L st c s) := propext (mv_R_iff (i := .getfield 19) (len := 3) (ax := [524, 0, 4, 1]) (by decide +kernel))
theorem e90_30 {v2 : Value} {v1 : Value} : mr90 S P 30 L (v2 :: v1 :: st) sh M c s = (mv_ss st ≤ 8 ∧ c ≤ 0 ∧ s ≤ 0 ∧ mv_isO sh (some v1) 3 ∧ mv_kal S 89 [v1, v2] sh M (mr90 S P) 33 L st c s) := (propext (mv_R_iff (i := .invokevirtual 227) (len := 3) (ax := [1, 89, 2, 3, 0, 0, 859, 861, 58, 112, 862]) (by decide +kernel))).trans (q_call1)
theorem e90_33 {x : Int32} : mr90 S P 33 L [.int x] sh M c s = (mv_nr 0 x ∧ P (some (.int x)) sh M) := propext (mv_R_iff (i := .ireturn) (len := 1) (ax := [0]) (by decide +kernel))
-- 98: TurnedTablets.fault()I
def mk98 : mv_Cd := [
  (0, .aload_n 0, 1, []),
  (1, .getfield 28, 3, [525, 0, 4, 2]),
  (4, .invokevirtual 80, 3, [1, 40, 1, 2, 0, 0, 392, 394, 0, 110, 395]),
  (7, .ireturn, 1, [0])]
def mr98 (S : Nat → mv_Sp) (P : mv_Post) : mv_Kt := mv_R mv_DF mk98 S (0, 0) P
theorem e98_0 : mr98 S P 0 L st sh M c s = (q_isA (q_gv L 0) ∧ mr98 S P 1 L (q_gv L 0 :: st) sh M c s) := (propext (mv_R_iff (i := .aload_n 0) (len := 1) (ax := []) (by decide +kernel))).trans (q_ldA_eq (K := fun st => mr98 S P 1 L st sh M c s))
theorem e98_1 {a : Nat} : mr98 S P 1 L (.ref a :: st) sh M c s = (mv_kgf sh M a 4 2 (mr98 S P) 4 L st c s) := propext (mv_R_iff (i := .getfield 28) (len := 3) (ax := [525, 0, 4, 2]) (by decide +kernel))
theorem e98_4 {v1 : Value} : mr98 S P 4 L (v1 :: st) sh M c s = (mv_ss st ≤ 8 ∧ c ≤ 0 ∧ s ≤ 0 ∧ mv_isO sh (some v1) 2 ∧ mv_kal S 40 [v1] sh M (mr98 S P) 7 L st c s) := (propext (mv_R_iff (i := .invokevirtual 80) (len := 3) (ax := [1, 40, 1, 2, 0, 0, 392, 394, 0, 110, 395]) (by decide +kernel))).trans (q_call1)
theorem e98_7 {x : Int32} : mr98 S P 7 L [.int x] sh M c s = (mv_nr 0 x ∧ P (some (.int x)) sh M) := propext (mv_R_iff (i := .ireturn) (len := 1) (ax := [0]) (by decide +kernel))
-- 109: TurnedTablets.jammed()I
def mk109 : mv_Cd := [
  (0, .aload_n 0, 1, []),
  (1, .getfield 39, 3, [527, 0, 4, 4]),
  (4, .aload_n 0, 1, []),
  (5, .getfield 35, 3, [526, 0, 4, 3]),
  (8, .invokevirtual 189, 3, [1, 52, 2, 0, 0, 0, 683, 685, 33, 111, 686]),
  (11, .iconst 1, 1, []),
  (12, .istore_n 1, 1, []),
  (13, .iload_n 1, 1, []),
  (14, .bipush 60, 2, []),
  (16, .if_icmp .gt 60, 3, [76]),
  (19, .iconst 0, 1, []),
  (20, .istore_n 2, 1, []),
  (21, .iload_n 2, 1, []),
  (22, .aload_n 0, 1, []),
  (23, .getfield 19, 3, [524, 0, 4, 1]),
  (26, .getfield 133, 3, [178, 1, 1, 2]),
  (29, .if_icmp .ge 41, 3, [70]),
  (32, .aload_n 0, 1, []),
  (33, .getfield 39, 3, [527, 0, 4, 4]),
  (36, .aload_n 0, 1, []),
  (37, .getfield 19, 3, [524, 0, 4, 1]),
  (40, .aload_n 0, 1, []),
  (41, .getfield 19, 3, [524, 0, 4, 1]),
  (44, .iload_n 2, 1, []),
  (45, .invokevirtual 167, 3, [1, 55, 2, 1, 0, 0, 726, 728, 40, 109, 729]),
  (48, .aload_n 0, 1, []),
  (49, .getfield 19, 3, [524, 0, 4, 1]),
  (52, .iload_n 2, 1, []),
  (53, .invokevirtual 170, 3, [1, 56, 2, 1, 0, 0, 731, 733, 41, 109, 734]),
  (56, .invokevirtual 205, 3, [1, 64, 4, 0, 0, 0, 790, 695, 35, 111, 696]),
  (59, .ifCond .le 5, 3, [64]),
  (62, .iload_n 1, 1, []),
  (63, .ireturn, 1, [0]),
  (64, .iinc 2 1, 3, []),
  (67, .goto (-46), 3, [21]),
  (70, .iinc 1 1, 3, []),
  (73, .goto (-60), 3, [13]),
  (76, .bipush (-4), 2, []),
  (78, .ireturn, 1, [0])]
def mr109 (S : Nat → mv_Sp) (P : mv_Post) : mv_Kt := mv_R mv_DF mk109 S (0, 0) P
theorem e109_0 : mr109 S P 0 L st sh M c s = (q_isA (q_gv L 0) ∧ mr109 S P 1 L (q_gv L 0 :: st) sh M c s) := (propext (mv_R_iff (i := .aload_n 0) (len := 1) (ax := []) (by decide +kernel))).trans (q_ldA_eq (K := fun st => mr109 S P 1 L st sh M c s))
theorem e109_1 {a : Nat} : mr109 S P 1 L (.ref a :: st) sh M c s = (mv_kgf sh M a 4 4 (mr109 S P) 4 L st c s) := propext (mv_R_iff (i := .getfield 39) (len := 3) (ax := [527, 0, 4, 4]) (by decide +kernel))
theorem e109_4 : mr109 S P 4 L st sh M c s = (q_isA (q_gv L 0) ∧ mr109 S P 5 L (q_gv L 0 :: st) sh M c s) := (propext (mv_R_iff (i := .aload_n 0) (len := 1) (ax := []) (by decide +kernel))).trans (q_ldA_eq (K := fun st => mr109 S P 5 L st sh M c s))
theorem e109_5 {a : Nat} : mr109 S P 5 L (.ref a :: st) sh M c s = (mv_kgf sh M a 4 3 (mr109 S P) 8 L st c s) := propext (mv_R_iff (i := .getfield 35) (len := 3) (ax := [526, 0, 4, 3]) (by decide +kernel))
theorem e109_8 {v2 : Value} {v1 : Value} : mr109 S P 8 L (v2 :: v1 :: st) sh M c s = (mv_ss st ≤ 8 ∧ c ≤ 0 ∧ s ≤ 0 ∧ mv_isO sh (some v1) 0 ∧ mv_kal S 52 [v1, v2] sh M (mr109 S P) 11 L st c s) := (propext (mv_R_iff (i := .invokevirtual 189) (len := 3) (ax := [1, 52, 2, 0, 0, 0, 683, 685, 33, 111, 686]) (by decide +kernel))).trans (q_call1)
theorem e109_11 : mr109 S P 11 L st sh M c s = (mr109 S P 12 L (.int (nI 1) :: st) sh M c s) := propext (mv_R_iff (i := .iconst 1) (len := 1) (ax := []) (by decide +kernel))
theorem e109_12 {x : Int32} : mr109 S P 12 L (.int x :: st) sh M c s = (q_hs L 1 ∧ mr109 S P 13 (L.set 1 (some (.int x))) st sh M c s) := (propext (mv_R_iff (i := .istore_n 1) (len := 1) (ax := []) (by decide +kernel))).trans (q_st_eq (K := fun L => mr109 S P 13 L st sh M c s))
theorem e109_13 : mr109 S P 13 L st sh M c s = (q_isI (q_gv L 1) ∧ mr109 S P 14 L (q_gv L 1 :: st) sh M c s) := (propext (mv_R_iff (i := .iload_n 1) (len := 1) (ax := []) (by decide +kernel))).trans (q_ldI_eq (K := fun st => mr109 S P 14 L st sh M c s))
theorem e109_14 : mr109 S P 14 L st sh M c s = (mr109 S P 16 L (.int (nI 60) :: st) sh M c s) := propext (mv_R_iff (i := .bipush 60) (len := 2) (ax := []) (by decide +kernel))
theorem e109_16 {y : Int32} {x : Int32} : mr109 S P 16 L (.int y :: .int x :: st) sh M c s = (if y < x then mr109 S P 76 L st sh M c s else mr109 S P 19 L st sh M c s) := (propext (mv_R_iff (i := .if_icmp .gt 60) (len := 3) (ax := [76]) (by decide +kernel))).trans (q_br)
theorem e109_19 : mr109 S P 19 L st sh M c s = (mr109 S P 20 L (.int (nI 0) :: st) sh M c s) := propext (mv_R_iff (i := .iconst 0) (len := 1) (ax := []) (by decide +kernel))
theorem e109_20 {x : Int32} : mr109 S P 20 L (.int x :: st) sh M c s = (q_hs L 2 ∧ mr109 S P 21 (L.set 2 (some (.int x))) st sh M c s) := (propext (mv_R_iff (i := .istore_n 2) (len := 1) (ax := []) (by decide +kernel))).trans (q_st_eq (K := fun L => mr109 S P 21 L st sh M c s))
theorem e109_21 : mr109 S P 21 L st sh M c s = (q_isI (q_gv L 2) ∧ mr109 S P 22 L (q_gv L 2 :: st) sh M c s) := (propext (mv_R_iff (i := .iload_n 2) (len := 1) (ax := []) (by decide +kernel))).trans (q_ldI_eq (K := fun st => mr109 S P 22 L st sh M c s))
theorem e109_22 : mr109 S P 22 L st sh M c s = (q_isA (q_gv L 0) ∧ mr109 S P 23 L (q_gv L 0 :: st) sh M c s) := (propext (mv_R_iff (i := .aload_n 0) (len := 1) (ax := []) (by decide +kernel))).trans (q_ldA_eq (K := fun st => mr109 S P 23 L st sh M c s))
theorem e109_23 {a : Nat} : mr109 S P 23 L (.ref a :: st) sh M c s = (mv_kgf sh M a 4 1 (mr109 S P) 26 L st c s) := propext (mv_R_iff (i := .getfield 19) (len := 3) (ax := [524, 0, 4, 1]) (by decide +kernel))
theorem e109_26 {a : Nat} : mr109 S P 26 L (.ref a :: st) sh M c s = (mv_kgf sh M a 1 2 (mr109 S P) 29 L st c s) := propext (mv_R_iff (i := .getfield 133) (len := 3) (ax := [178, 1, 1, 2]) (by decide +kernel))
theorem e109_29 {y : Int32} {x : Int32} : mr109 S P 29 L (.int y :: .int x :: st) sh M c s = (if y ≤ x then mr109 S P 70 L st sh M c s else mr109 S P 32 L st sh M c s) := (propext (mv_R_iff (i := .if_icmp .ge 41) (len := 3) (ax := [70]) (by decide +kernel))).trans (q_br)
theorem e109_32 : mr109 S P 32 L st sh M c s = (q_isA (q_gv L 0) ∧ mr109 S P 33 L (q_gv L 0 :: st) sh M c s) := (propext (mv_R_iff (i := .aload_n 0) (len := 1) (ax := []) (by decide +kernel))).trans (q_ldA_eq (K := fun st => mr109 S P 33 L st sh M c s))
theorem e109_33 {a : Nat} : mr109 S P 33 L (.ref a :: st) sh M c s = (mv_kgf sh M a 4 4 (mr109 S P) 36 L st c s) := propext (mv_R_iff (i := .getfield 39) (len := 3) (ax := [527, 0, 4, 4]) (by decide +kernel))
theorem e109_36 : mr109 S P 36 L st sh M c s = (q_isA (q_gv L 0) ∧ mr109 S P 37 L (q_gv L 0 :: st) sh M c s) := (propext (mv_R_iff (i := .aload_n 0) (len := 1) (ax := []) (by decide +kernel))).trans (q_ldA_eq (K := fun st => mr109 S P 37 L st sh M c s))
theorem e109_37 {a : Nat} : mr109 S P 37 L (.ref a :: st) sh M c s = (mv_kgf sh M a 4 1 (mr109 S P) 40 L st c s) := propext (mv_R_iff (i := .getfield 19) (len := 3) (ax := [524, 0, 4, 1]) (by decide +kernel))
theorem e109_40 : mr109 S P 40 L st sh M c s = (q_isA (q_gv L 0) ∧ mr109 S P 41 L (q_gv L 0 :: st) sh M c s) := (propext (mv_R_iff (i := .aload_n 0) (len := 1) (ax := []) (by decide +kernel))).trans (q_ldA_eq (K := fun st => mr109 S P 41 L st sh M c s))
theorem e109_41 {a : Nat} : mr109 S P 41 L (.ref a :: st) sh M c s = (mv_kgf sh M a 4 1 (mr109 S P) 44 L st c s) := propext (mv_R_iff (i := .getfield 19) (len := 3) (ax := [524, 0, 4, 1]) (by decide +kernel))
theorem e109_44 : mr109 S P 44 L st sh M c s = (q_isI (q_gv L 2) ∧ mr109 S P 45 L (q_gv L 2 :: st) sh M c s) := (propext (mv_R_iff (i := .iload_n 2) (len := 1) (ax := []) (by decide +kernel))).trans (q_ldI_eq (K := fun st => mr109 S P 45 L st sh M c s))
theorem e109_45 {v2 : Value} {v1 : Value} : mr109 S P 45 L (v2 :: v1 :: st) sh M c s = (mv_ss st ≤ 8 ∧ c ≤ 0 ∧ s ≤ 0 ∧ mv_isO sh (some v1) 1 ∧ mv_kal S 55 [v1, v2] sh M (mr109 S P) 48 L st c s) := (propext (mv_R_iff (i := .invokevirtual 167) (len := 3) (ax := [1, 55, 2, 1, 0, 0, 726, 728, 40, 109, 729]) (by decide +kernel))).trans (q_call1)
theorem e109_48 : mr109 S P 48 L st sh M c s = (q_isA (q_gv L 0) ∧ mr109 S P 49 L (q_gv L 0 :: st) sh M c s) := (propext (mv_R_iff (i := .aload_n 0) (len := 1) (ax := []) (by decide +kernel))).trans (q_ldA_eq (K := fun st => mr109 S P 49 L st sh M c s))
theorem e109_49 {a : Nat} : mr109 S P 49 L (.ref a :: st) sh M c s = (mv_kgf sh M a 4 1 (mr109 S P) 52 L st c s) := propext (mv_R_iff (i := .getfield 19) (len := 3) (ax := [524, 0, 4, 1]) (by decide +kernel))
theorem e109_52 : mr109 S P 52 L st sh M c s = (q_isI (q_gv L 2) ∧ mr109 S P 53 L (q_gv L 2 :: st) sh M c s) := (propext (mv_R_iff (i := .iload_n 2) (len := 1) (ax := []) (by decide +kernel))).trans (q_ldI_eq (K := fun st => mr109 S P 53 L st sh M c s))
theorem e109_53 {v2 : Value} {v1 : Value} : mr109 S P 53 L (v2 :: v1 :: st) sh M c s = (mv_ss st ≤ 8 ∧ c ≤ 0 ∧ s ≤ 0 ∧ mv_isO sh (some v1) 1 ∧ mv_kal S 56 [v1, v2] sh M (mr109 S P) 56 L st c s) := (propext (mv_R_iff (i := .invokevirtual 170) (len := 3) (ax := [1, 56, 2, 1, 0, 0, 731, 733, 41, 109, 734]) (by decide +kernel))).trans (q_call1)
theorem e109_56 {v4 : Value} {v3 : Value} {v2 : Value} {v1 : Value} : mr109 S P 56 L (v4 :: v3 :: v2 :: v1 :: st) sh M c s = (mv_ss st ≤ 8 ∧ c ≤ 0 ∧ s ≤ 0 ∧ mv_isO sh (some v1) 0 ∧ mv_kal S 64 [v1, v2, v3, v4] sh M (mr109 S P) 59 L st c s) := (propext (mv_R_iff (i := .invokevirtual 205) (len := 3) (ax := [1, 64, 4, 0, 0, 0, 790, 695, 35, 111, 696]) (by decide +kernel))).trans (q_call1)
theorem e109_59 {x : Int32} : mr109 S P 59 L (.int x :: st) sh M c s = (if x ≤ nI 0 then mr109 S P 64 L st sh M c s else mr109 S P 62 L st sh M c s) := (propext (mv_R_iff (i := .ifCond .le 5) (len := 3) (ax := [64]) (by decide +kernel))).trans (q_br)
theorem e109_62 : mr109 S P 62 L st sh M c s = (q_isI (q_gv L 1) ∧ mr109 S P 63 L (q_gv L 1 :: st) sh M c s) := (propext (mv_R_iff (i := .iload_n 1) (len := 1) (ax := []) (by decide +kernel))).trans (q_ldI_eq (K := fun st => mr109 S P 63 L st sh M c s))
theorem e109_63 {x : Int32} : mr109 S P 63 L [.int x] sh M c s = (mv_nr 0 x ∧ P (some (.int x)) sh M) := propext (mv_R_iff (i := .ireturn) (len := 1) (ax := [0]) (by decide +kernel))
theorem e109_64 : mr109 S P 64 L st sh M c s = ((q_isI (q_gv L 2) ∧ q_hs L 2) ∧ mr109 S P 67 (L.set 2 (some (q_inc (q_gv L 2) (nI 1)))) st sh M c s) := (propext (mv_R_iff (i := .iinc 2 1) (len := 3) (ax := []) (by decide +kernel))).trans (q_inc_eq (K := fun L => mr109 S P 67 L st sh M c s))
theorem e109_67 : mr109 S P 67 L st sh M c s = (mr109 S P 21 L st sh M c s) := propext (mv_R_iff (i := .goto (-46)) (len := 3) (ax := [21]) (by decide +kernel))
theorem e109_70 : mr109 S P 70 L st sh M c s = ((q_isI (q_gv L 1) ∧ q_hs L 1) ∧ mr109 S P 73 (L.set 1 (some (q_inc (q_gv L 1) (nI 1)))) st sh M c s) := (propext (mv_R_iff (i := .iinc 1 1) (len := 3) (ax := []) (by decide +kernel))).trans (q_inc_eq (K := fun L => mr109 S P 73 L st sh M c s))
theorem e109_73 : mr109 S P 73 L st sh M c s = (mr109 S P 13 L st sh M c s) := propext (mv_R_iff (i := .goto (-60)) (len := 3) (ax := [13]) (by decide +kernel))
theorem e109_76 : mr109 S P 76 L st sh M c s = (mr109 S P 78 L (.int (Int32.ofInt (-4)) :: st) sh M c s) := (propext (mv_R_iff (i := .bipush (-4)) (len := 2) (ax := []) (by decide +kernel))).trans (congrArg (fun z => mr109 S P 78 L (.int z :: st) sh M c s) (by decide : (Int8.ofInt (-4)).toInt32 = Int32.ofInt (-4)))
theorem e109_78 {x : Int32} : mr109 S P 78 L [.int x] sh M c s = (mv_nr 0 x ∧ P (some (.int x)) sh M) := propext (mv_R_iff (i := .ireturn) (len := 1) (ax := [0]) (by decide +kernel))
-- 126: TurnedTablets.slips(IIII)I
def mk126 : mv_Cd := [
  (0, .aload_n 0, 1, []),
  (1, .iload_n 1, 1, []),
  (2, .invokevirtual 127, 3, [0, 107, 2, 4, 0, 0, 0, 624, 626, 24, 104, 627]),
  (5, .ifCond .eq 31, 3, [36]),
  (8, .iload_n 2, 1, []),
  (9, .invokestatic 157, 3, [3, 108, 1, 0, 0, 0, 0, 676, 677, 104, 678]),
  (12, .ifCond .eq 24, 3, [36]),
  (15, .iload_n 3, 1, []),
  (16, .ifCond .lt 20, 3, [36]),
  (19, .iload_n 3, 1, []),
  (20, .bipush 10, 2, []),
  (22, .if_icmp .gt 14, 3, [36]),
  (25, .iload 4, 2, []),
  (27, .ifCond .lt 9, 3, [36]),
  (30, .iload 4, 2, []),
  (32, .iconst 1, 1, []),
  (33, .if_icmp .le 5, 3, [38]),
  (36, .iconst (-1), 1, []),
  (37, .ireturn, 1, [0]),
  (38, .iconst 1, 1, []),
  (39, .istore 5, 2, []),
  (41, .iconst 1, 1, []),
  (42, .istore 6, 2, []),
  (44, .iconst 0, 1, []),
  (45, .istore 7, 2, []),
  (47, .iload 7, 2, []),
  (49, .aload_n 0, 1, []),
  (50, .getfield 19, 3, [524, 0, 4, 1]),
  (53, .getfield 86, 3, [168, 1, 1, 0]),
  (56, .if_icmp .ge 55, 3, [111]),
  (59, .aload_n 0, 1, []),
  (60, .getfield 19, 3, [524, 0, 4, 1]),
  (63, .iload_n 1, 1, []),
  (64, .iload 7, 2, []),
  (66, .invokevirtual 198, 3, [1, 58, 3, 1, 0, 0, 784, 699, 36, 109, 700]),
  (69, .ifCond .eq 36, 3, [105]),
  (72, .aload_n 0, 1, []),
  (73, .getfield 35, 3, [526, 0, 4, 3]),
  (76, .aload_n 0, 1, []),
  (77, .getfield 19, 3, [524, 0, 4, 1]),
  (80, .iload 7, 2, []),
  (82, .iload_n 2, 1, []),
  (83, .invokevirtual 254, 3, [1, 125, 4, 0, 0, 0, 933, 935, 67, 111, 936]),
  (86, .ifCond .eq 19, 3, [105]),
  (89, .iload 5, 2, []),
  (91, .bipush 10, 2, []),
  (93, .iload_n 3, 1, []),
  (94, .isub, 1, []),
  (95, .imul, 1, []),
  (96, .istore 5, 2, []),
  (98, .iload 6, 2, []),
  (100, .bipush 10, 2, []),
  (102, .imul, 1, []),
  (103, .istore 6, 2, []),
  (105, .iinc 7 1, 3, []),
  (108, .goto (-61), 3, [47]),
  (111, .iload 5, 2, []),
  (113, .iload 6, 2, []),
  (115, .invokestatic 258, 3, [3, 93, 2, 0, 0, 0, 0, 938, 939, 104, 940]),
  (118, .istore 7, 2, []),
  (120, .iload 4, 2, []),
  (122, .ifCond .ne 8, 3, [130]),
  (125, .iload 5, 2, []),
  (127, .goto 5, 3, [132]),
  (130, .iload 6, 2, []),
  (132, .iload 7, 2, []),
  (134, .ifCond .le 8, 3, [142]),
  (137, .iload 7, 2, []),
  (139, .goto 4, 3, [143]),
  (142, .iconst 1, 1, []),
  (143, .idiv, 1, []),
  (144, .ireturn, 1, [0])]
def mr126 (S : Nat → mv_Sp) (P : mv_Post) : mv_Kt := mv_R mv_DF mk126 S (0, 0) P
theorem e126_0 : mr126 S P 0 L st sh M c s = (q_isA (q_gv L 0) ∧ mr126 S P 1 L (q_gv L 0 :: st) sh M c s) := (propext (mv_R_iff (i := .aload_n 0) (len := 1) (ax := []) (by decide +kernel))).trans (q_ldA_eq (K := fun st => mr126 S P 1 L st sh M c s))
theorem e126_1 : mr126 S P 1 L st sh M c s = (q_isI (q_gv L 1) ∧ mr126 S P 2 L (q_gv L 1 :: st) sh M c s) := (propext (mv_R_iff (i := .iload_n 1) (len := 1) (ax := []) (by decide +kernel))).trans (q_ldI_eq (K := fun st => mr126 S P 2 L st sh M c s))
theorem e126_2 {v2 : Value} {v1 : Value} : mr126 S P 2 L (v2 :: v1 :: st) sh M c s = (mv_ss st ≤ 8 ∧ c ≤ 0 ∧ s ≤ 0 ∧ mv_isO sh (some v1) 4 ∧ mv_kal S 107 [v1, v2] sh M (mr126 S P) 5 L st c s) := (propext (mv_R_iff (i := .invokevirtual 127) (len := 3) (ax := [0, 107, 2, 4, 0, 0, 0, 624, 626, 24, 104, 627]) (by decide +kernel))).trans (q_call0)
theorem e126_5 {x : Int32} : mr126 S P 5 L (.int x :: st) sh M c s = (if x = nI 0 then mr126 S P 36 L st sh M c s else mr126 S P 8 L st sh M c s) := (propext (mv_R_iff (i := .ifCond .eq 31) (len := 3) (ax := [36]) (by decide +kernel))).trans (q_br)
theorem e126_8 : mr126 S P 8 L st sh M c s = (q_isI (q_gv L 2) ∧ mr126 S P 9 L (q_gv L 2 :: st) sh M c s) := (propext (mv_R_iff (i := .iload_n 2) (len := 1) (ax := []) (by decide +kernel))).trans (q_ldI_eq (K := fun st => mr126 S P 9 L st sh M c s))
theorem e126_9 {v1 : Value} : mr126 S P 9 L (v1 :: st) sh M c s = (mv_ss st ≤ 8 ∧ c ≤ 0 ∧ s ≤ 0 ∧ True ∧ mv_kal S 108 [v1] sh M (mr126 S P) 12 L st c s) := (propext (mv_R_iff (i := .invokestatic 157) (len := 3) (ax := [3, 108, 1, 0, 0, 0, 0, 676, 677, 104, 678]) (by decide +kernel))).trans (q_call3)
theorem e126_12 {x : Int32} : mr126 S P 12 L (.int x :: st) sh M c s = (if x = nI 0 then mr126 S P 36 L st sh M c s else mr126 S P 15 L st sh M c s) := (propext (mv_R_iff (i := .ifCond .eq 24) (len := 3) (ax := [36]) (by decide +kernel))).trans (q_br)
theorem e126_15 : mr126 S P 15 L st sh M c s = (q_isI (q_gv L 3) ∧ mr126 S P 16 L (q_gv L 3 :: st) sh M c s) := (propext (mv_R_iff (i := .iload_n 3) (len := 1) (ax := []) (by decide +kernel))).trans (q_ldI_eq (K := fun st => mr126 S P 16 L st sh M c s))
theorem e126_16 {x : Int32} : mr126 S P 16 L (.int x :: st) sh M c s = (if x < nI 0 then mr126 S P 36 L st sh M c s else mr126 S P 19 L st sh M c s) := (propext (mv_R_iff (i := .ifCond .lt 20) (len := 3) (ax := [36]) (by decide +kernel))).trans (q_br)
theorem e126_19 : mr126 S P 19 L st sh M c s = (q_isI (q_gv L 3) ∧ mr126 S P 20 L (q_gv L 3 :: st) sh M c s) := (propext (mv_R_iff (i := .iload_n 3) (len := 1) (ax := []) (by decide +kernel))).trans (q_ldI_eq (K := fun st => mr126 S P 20 L st sh M c s))
theorem e126_20 : mr126 S P 20 L st sh M c s = (mr126 S P 22 L (.int (nI 10) :: st) sh M c s) := propext (mv_R_iff (i := .bipush 10) (len := 2) (ax := []) (by decide +kernel))
theorem e126_22 {y : Int32} {x : Int32} : mr126 S P 22 L (.int y :: .int x :: st) sh M c s = (if y < x then mr126 S P 36 L st sh M c s else mr126 S P 25 L st sh M c s) := (propext (mv_R_iff (i := .if_icmp .gt 14) (len := 3) (ax := [36]) (by decide +kernel))).trans (q_br)
theorem e126_25 : mr126 S P 25 L st sh M c s = (q_isI (q_gv L 4) ∧ mr126 S P 27 L (q_gv L 4 :: st) sh M c s) := (propext (mv_R_iff (i := .iload 4) (len := 2) (ax := []) (by decide +kernel))).trans (q_ldI_eq (K := fun st => mr126 S P 27 L st sh M c s))
theorem e126_27 {x : Int32} : mr126 S P 27 L (.int x :: st) sh M c s = (if x < nI 0 then mr126 S P 36 L st sh M c s else mr126 S P 30 L st sh M c s) := (propext (mv_R_iff (i := .ifCond .lt 9) (len := 3) (ax := [36]) (by decide +kernel))).trans (q_br)
theorem e126_30 : mr126 S P 30 L st sh M c s = (q_isI (q_gv L 4) ∧ mr126 S P 32 L (q_gv L 4 :: st) sh M c s) := (propext (mv_R_iff (i := .iload 4) (len := 2) (ax := []) (by decide +kernel))).trans (q_ldI_eq (K := fun st => mr126 S P 32 L st sh M c s))
theorem e126_32 : mr126 S P 32 L st sh M c s = (mr126 S P 33 L (.int (nI 1) :: st) sh M c s) := propext (mv_R_iff (i := .iconst 1) (len := 1) (ax := []) (by decide +kernel))
theorem e126_33 {y : Int32} {x : Int32} : mr126 S P 33 L (.int y :: .int x :: st) sh M c s = (if x ≤ y then mr126 S P 38 L st sh M c s else mr126 S P 36 L st sh M c s) := (propext (mv_R_iff (i := .if_icmp .le 5) (len := 3) (ax := [38]) (by decide +kernel))).trans (q_br)
theorem e126_36 : mr126 S P 36 L st sh M c s = (mr126 S P 37 L (.int (Int32.ofInt (-1)) :: st) sh M c s) := propext (mv_R_iff (i := .iconst (-1)) (len := 1) (ax := []) (by decide +kernel))
theorem e126_37 {x : Int32} : mr126 S P 37 L [.int x] sh M c s = (mv_nr 0 x ∧ P (some (.int x)) sh M) := propext (mv_R_iff (i := .ireturn) (len := 1) (ax := [0]) (by decide +kernel))
theorem e126_38 : mr126 S P 38 L st sh M c s = (mr126 S P 39 L (.int (nI 1) :: st) sh M c s) := propext (mv_R_iff (i := .iconst 1) (len := 1) (ax := []) (by decide +kernel))
theorem e126_39 {x : Int32} : mr126 S P 39 L (.int x :: st) sh M c s = (q_hs L 5 ∧ mr126 S P 41 (L.set 5 (some (.int x))) st sh M c s) := (propext (mv_R_iff (i := .istore 5) (len := 2) (ax := []) (by decide +kernel))).trans (q_st_eq (K := fun L => mr126 S P 41 L st sh M c s))
theorem e126_41 : mr126 S P 41 L st sh M c s = (mr126 S P 42 L (.int (nI 1) :: st) sh M c s) := propext (mv_R_iff (i := .iconst 1) (len := 1) (ax := []) (by decide +kernel))
theorem e126_42 {x : Int32} : mr126 S P 42 L (.int x :: st) sh M c s = (q_hs L 6 ∧ mr126 S P 44 (L.set 6 (some (.int x))) st sh M c s) := (propext (mv_R_iff (i := .istore 6) (len := 2) (ax := []) (by decide +kernel))).trans (q_st_eq (K := fun L => mr126 S P 44 L st sh M c s))
theorem e126_44 : mr126 S P 44 L st sh M c s = (mr126 S P 45 L (.int (nI 0) :: st) sh M c s) := propext (mv_R_iff (i := .iconst 0) (len := 1) (ax := []) (by decide +kernel))
theorem e126_45 {x : Int32} : mr126 S P 45 L (.int x :: st) sh M c s = (q_hs L 7 ∧ mr126 S P 47 (L.set 7 (some (.int x))) st sh M c s) := (propext (mv_R_iff (i := .istore 7) (len := 2) (ax := []) (by decide +kernel))).trans (q_st_eq (K := fun L => mr126 S P 47 L st sh M c s))
theorem e126_47 : mr126 S P 47 L st sh M c s = (q_isI (q_gv L 7) ∧ mr126 S P 49 L (q_gv L 7 :: st) sh M c s) := (propext (mv_R_iff (i := .iload 7) (len := 2) (ax := []) (by decide +kernel))).trans (q_ldI_eq (K := fun st => mr126 S P 49 L st sh M c s))
theorem e126_49 : mr126 S P 49 L st sh M c s = (q_isA (q_gv L 0) ∧ mr126 S P 50 L (q_gv L 0 :: st) sh M c s) := (propext (mv_R_iff (i := .aload_n 0) (len := 1) (ax := []) (by decide +kernel))).trans (q_ldA_eq (K := fun st => mr126 S P 50 L st sh M c s))
theorem e126_50 {a : Nat} : mr126 S P 50 L (.ref a :: st) sh M c s = (mv_kgf sh M a 4 1 (mr126 S P) 53 L st c s) := propext (mv_R_iff (i := .getfield 19) (len := 3) (ax := [524, 0, 4, 1]) (by decide +kernel))
theorem e126_53 {a : Nat} : mr126 S P 53 L (.ref a :: st) sh M c s = (mv_kgf sh M a 1 0 (mr126 S P) 56 L st c s) := propext (mv_R_iff (i := .getfield 86) (len := 3) (ax := [168, 1, 1, 0]) (by decide +kernel))
theorem e126_56 {y : Int32} {x : Int32} : mr126 S P 56 L (.int y :: .int x :: st) sh M c s = (if y ≤ x then mr126 S P 111 L st sh M c s else mr126 S P 59 L st sh M c s) := (propext (mv_R_iff (i := .if_icmp .ge 55) (len := 3) (ax := [111]) (by decide +kernel))).trans (q_br)
theorem e126_59 : mr126 S P 59 L st sh M c s = (q_isA (q_gv L 0) ∧ mr126 S P 60 L (q_gv L 0 :: st) sh M c s) := (propext (mv_R_iff (i := .aload_n 0) (len := 1) (ax := []) (by decide +kernel))).trans (q_ldA_eq (K := fun st => mr126 S P 60 L st sh M c s))
theorem e126_60 {a : Nat} : mr126 S P 60 L (.ref a :: st) sh M c s = (mv_kgf sh M a 4 1 (mr126 S P) 63 L st c s) := propext (mv_R_iff (i := .getfield 19) (len := 3) (ax := [524, 0, 4, 1]) (by decide +kernel))
theorem e126_63 : mr126 S P 63 L st sh M c s = (q_isI (q_gv L 1) ∧ mr126 S P 64 L (q_gv L 1 :: st) sh M c s) := (propext (mv_R_iff (i := .iload_n 1) (len := 1) (ax := []) (by decide +kernel))).trans (q_ldI_eq (K := fun st => mr126 S P 64 L st sh M c s))
theorem e126_64 : mr126 S P 64 L st sh M c s = (q_isI (q_gv L 7) ∧ mr126 S P 66 L (q_gv L 7 :: st) sh M c s) := (propext (mv_R_iff (i := .iload 7) (len := 2) (ax := []) (by decide +kernel))).trans (q_ldI_eq (K := fun st => mr126 S P 66 L st sh M c s))
theorem e126_66 {v3 : Value} {v2 : Value} {v1 : Value} : mr126 S P 66 L (v3 :: v2 :: v1 :: st) sh M c s = (mv_ss st ≤ 8 ∧ c ≤ 0 ∧ s ≤ 0 ∧ mv_isO sh (some v1) 1 ∧ mv_kal S 58 [v1, v2, v3] sh M (mr126 S P) 69 L st c s) := (propext (mv_R_iff (i := .invokevirtual 198) (len := 3) (ax := [1, 58, 3, 1, 0, 0, 784, 699, 36, 109, 700]) (by decide +kernel))).trans (q_call1)
theorem e126_69 {x : Int32} : mr126 S P 69 L (.int x :: st) sh M c s = (if x = nI 0 then mr126 S P 105 L st sh M c s else mr126 S P 72 L st sh M c s) := (propext (mv_R_iff (i := .ifCond .eq 36) (len := 3) (ax := [105]) (by decide +kernel))).trans (q_br)
theorem e126_72 : mr126 S P 72 L st sh M c s = (q_isA (q_gv L 0) ∧ mr126 S P 73 L (q_gv L 0 :: st) sh M c s) := (propext (mv_R_iff (i := .aload_n 0) (len := 1) (ax := []) (by decide +kernel))).trans (q_ldA_eq (K := fun st => mr126 S P 73 L st sh M c s))
theorem e126_73 {a : Nat} : mr126 S P 73 L (.ref a :: st) sh M c s = (mv_kgf sh M a 4 3 (mr126 S P) 76 L st c s) := propext (mv_R_iff (i := .getfield 35) (len := 3) (ax := [526, 0, 4, 3]) (by decide +kernel))
theorem e126_76 : mr126 S P 76 L st sh M c s = (q_isA (q_gv L 0) ∧ mr126 S P 77 L (q_gv L 0 :: st) sh M c s) := (propext (mv_R_iff (i := .aload_n 0) (len := 1) (ax := []) (by decide +kernel))).trans (q_ldA_eq (K := fun st => mr126 S P 77 L st sh M c s))
theorem e126_77 {a : Nat} : mr126 S P 77 L (.ref a :: st) sh M c s = (mv_kgf sh M a 4 1 (mr126 S P) 80 L st c s) := propext (mv_R_iff (i := .getfield 19) (len := 3) (ax := [524, 0, 4, 1]) (by decide +kernel))
theorem e126_80 : mr126 S P 80 L st sh M c s = (q_isI (q_gv L 7) ∧ mr126 S P 82 L (q_gv L 7 :: st) sh M c s) := (propext (mv_R_iff (i := .iload 7) (len := 2) (ax := []) (by decide +kernel))).trans (q_ldI_eq (K := fun st => mr126 S P 82 L st sh M c s))
theorem e126_82 : mr126 S P 82 L st sh M c s = (q_isI (q_gv L 2) ∧ mr126 S P 83 L (q_gv L 2 :: st) sh M c s) := (propext (mv_R_iff (i := .iload_n 2) (len := 1) (ax := []) (by decide +kernel))).trans (q_ldI_eq (K := fun st => mr126 S P 83 L st sh M c s))
theorem e126_83 {v4 : Value} {v3 : Value} {v2 : Value} {v1 : Value} : mr126 S P 83 L (v4 :: v3 :: v2 :: v1 :: st) sh M c s = (mv_ss st ≤ 8 ∧ c ≤ 0 ∧ s ≤ 0 ∧ mv_isO sh (some v1) 0 ∧ mv_kal S 125 [v1, v2, v3, v4] sh M (mr126 S P) 86 L st c s) := (propext (mv_R_iff (i := .invokevirtual 254) (len := 3) (ax := [1, 125, 4, 0, 0, 0, 933, 935, 67, 111, 936]) (by decide +kernel))).trans (q_call1)
theorem e126_86 {x : Int32} : mr126 S P 86 L (.int x :: st) sh M c s = (if x = nI 0 then mr126 S P 105 L st sh M c s else mr126 S P 89 L st sh M c s) := (propext (mv_R_iff (i := .ifCond .eq 19) (len := 3) (ax := [105]) (by decide +kernel))).trans (q_br)
theorem e126_89 : mr126 S P 89 L st sh M c s = (q_isI (q_gv L 5) ∧ mr126 S P 91 L (q_gv L 5 :: st) sh M c s) := (propext (mv_R_iff (i := .iload 5) (len := 2) (ax := []) (by decide +kernel))).trans (q_ldI_eq (K := fun st => mr126 S P 91 L st sh M c s))
theorem e126_91 : mr126 S P 91 L st sh M c s = (mr126 S P 93 L (.int (nI 10) :: st) sh M c s) := propext (mv_R_iff (i := .bipush 10) (len := 2) (ax := []) (by decide +kernel))
theorem e126_93 : mr126 S P 93 L st sh M c s = (q_isI (q_gv L 3) ∧ mr126 S P 94 L (q_gv L 3 :: st) sh M c s) := (propext (mv_R_iff (i := .iload_n 3) (len := 1) (ax := []) (by decide +kernel))).trans (q_ldI_eq (K := fun st => mr126 S P 94 L st sh M c s))
theorem e126_94 {y : Int32} {x : Int32} : mr126 S P 94 L (.int y :: .int x :: st) sh M c s = (mr126 S P 95 L (.int (x - y) :: st) sh M c s) := propext (mv_R_iff (i := .isub) (len := 1) (ax := []) (by decide +kernel))
theorem e126_95 {y : Int32} {x : Int32} : mr126 S P 95 L (.int y :: .int x :: st) sh M c s = (mr126 S P 96 L (.int (x * y) :: st) sh M c s) := propext (mv_R_iff (i := .imul) (len := 1) (ax := []) (by decide +kernel))
theorem e126_96 {x : Int32} : mr126 S P 96 L (.int x :: st) sh M c s = (q_hs L 5 ∧ mr126 S P 98 (L.set 5 (some (.int x))) st sh M c s) := (propext (mv_R_iff (i := .istore 5) (len := 2) (ax := []) (by decide +kernel))).trans (q_st_eq (K := fun L => mr126 S P 98 L st sh M c s))
theorem e126_98 : mr126 S P 98 L st sh M c s = (q_isI (q_gv L 6) ∧ mr126 S P 100 L (q_gv L 6 :: st) sh M c s) := (propext (mv_R_iff (i := .iload 6) (len := 2) (ax := []) (by decide +kernel))).trans (q_ldI_eq (K := fun st => mr126 S P 100 L st sh M c s))
theorem e126_100 : mr126 S P 100 L st sh M c s = (mr126 S P 102 L (.int (nI 10) :: st) sh M c s) := propext (mv_R_iff (i := .bipush 10) (len := 2) (ax := []) (by decide +kernel))
theorem e126_102 {y : Int32} {x : Int32} : mr126 S P 102 L (.int y :: .int x :: st) sh M c s = (mr126 S P 103 L (.int (x * y) :: st) sh M c s) := propext (mv_R_iff (i := .imul) (len := 1) (ax := []) (by decide +kernel))
theorem e126_103 {x : Int32} : mr126 S P 103 L (.int x :: st) sh M c s = (q_hs L 6 ∧ mr126 S P 105 (L.set 6 (some (.int x))) st sh M c s) := (propext (mv_R_iff (i := .istore 6) (len := 2) (ax := []) (by decide +kernel))).trans (q_st_eq (K := fun L => mr126 S P 105 L st sh M c s))
theorem e126_105 : mr126 S P 105 L st sh M c s = ((q_isI (q_gv L 7) ∧ q_hs L 7) ∧ mr126 S P 108 (L.set 7 (some (q_inc (q_gv L 7) (nI 1)))) st sh M c s) := (propext (mv_R_iff (i := .iinc 7 1) (len := 3) (ax := []) (by decide +kernel))).trans (q_inc_eq (K := fun L => mr126 S P 108 L st sh M c s))
theorem e126_108 : mr126 S P 108 L st sh M c s = (mr126 S P 47 L st sh M c s) := propext (mv_R_iff (i := .goto (-61)) (len := 3) (ax := [47]) (by decide +kernel))
theorem e126_111 : mr126 S P 111 L st sh M c s = (q_isI (q_gv L 5) ∧ mr126 S P 113 L (q_gv L 5 :: st) sh M c s) := (propext (mv_R_iff (i := .iload 5) (len := 2) (ax := []) (by decide +kernel))).trans (q_ldI_eq (K := fun st => mr126 S P 113 L st sh M c s))
theorem e126_113 : mr126 S P 113 L st sh M c s = (q_isI (q_gv L 6) ∧ mr126 S P 115 L (q_gv L 6 :: st) sh M c s) := (propext (mv_R_iff (i := .iload 6) (len := 2) (ax := []) (by decide +kernel))).trans (q_ldI_eq (K := fun st => mr126 S P 115 L st sh M c s))
theorem e126_115 {v2 : Value} {v1 : Value} : mr126 S P 115 L (v2 :: v1 :: st) sh M c s = (mv_ss st ≤ 8 ∧ c ≤ 0 ∧ s ≤ 0 ∧ True ∧ mv_kal S 93 [v1, v2] sh M (mr126 S P) 118 L st c s) := (propext (mv_R_iff (i := .invokestatic 258) (len := 3) (ax := [3, 93, 2, 0, 0, 0, 0, 938, 939, 104, 940]) (by decide +kernel))).trans (q_call3)
theorem e126_118 {x : Int32} : mr126 S P 118 L (.int x :: st) sh M c s = (q_hs L 7 ∧ mr126 S P 120 (L.set 7 (some (.int x))) st sh M c s) := (propext (mv_R_iff (i := .istore 7) (len := 2) (ax := []) (by decide +kernel))).trans (q_st_eq (K := fun L => mr126 S P 120 L st sh M c s))
theorem e126_120 : mr126 S P 120 L st sh M c s = (q_isI (q_gv L 4) ∧ mr126 S P 122 L (q_gv L 4 :: st) sh M c s) := (propext (mv_R_iff (i := .iload 4) (len := 2) (ax := []) (by decide +kernel))).trans (q_ldI_eq (K := fun st => mr126 S P 122 L st sh M c s))
theorem e126_122 {x : Int32} : mr126 S P 122 L (.int x :: st) sh M c s = (if x = nI 0 then mr126 S P 125 L st sh M c s else mr126 S P 130 L st sh M c s) := (propext (mv_R_iff (i := .ifCond .ne 8) (len := 3) (ax := [130]) (by decide +kernel))).trans (q_br')
theorem e126_125 : mr126 S P 125 L st sh M c s = (q_isI (q_gv L 5) ∧ mr126 S P 127 L (q_gv L 5 :: st) sh M c s) := (propext (mv_R_iff (i := .iload 5) (len := 2) (ax := []) (by decide +kernel))).trans (q_ldI_eq (K := fun st => mr126 S P 127 L st sh M c s))
theorem e126_127 : mr126 S P 127 L st sh M c s = (mr126 S P 132 L st sh M c s) := propext (mv_R_iff (i := .goto 5) (len := 3) (ax := [132]) (by decide +kernel))
theorem e126_130 : mr126 S P 130 L st sh M c s = (q_isI (q_gv L 6) ∧ mr126 S P 132 L (q_gv L 6 :: st) sh M c s) := (propext (mv_R_iff (i := .iload 6) (len := 2) (ax := []) (by decide +kernel))).trans (q_ldI_eq (K := fun st => mr126 S P 132 L st sh M c s))
theorem e126_132 : mr126 S P 132 L st sh M c s = (q_isI (q_gv L 7) ∧ mr126 S P 134 L (q_gv L 7 :: st) sh M c s) := (propext (mv_R_iff (i := .iload 7) (len := 2) (ax := []) (by decide +kernel))).trans (q_ldI_eq (K := fun st => mr126 S P 134 L st sh M c s))
theorem e126_134 {x : Int32} : mr126 S P 134 L (.int x :: st) sh M c s = (if x ≤ nI 0 then mr126 S P 142 L st sh M c s else mr126 S P 137 L st sh M c s) := (propext (mv_R_iff (i := .ifCond .le 8) (len := 3) (ax := [142]) (by decide +kernel))).trans (q_br)
theorem e126_137 : mr126 S P 137 L st sh M c s = (q_isI (q_gv L 7) ∧ mr126 S P 139 L (q_gv L 7 :: st) sh M c s) := (propext (mv_R_iff (i := .iload 7) (len := 2) (ax := []) (by decide +kernel))).trans (q_ldI_eq (K := fun st => mr126 S P 139 L st sh M c s))
theorem e126_139 : mr126 S P 139 L st sh M c s = (mr126 S P 143 L st sh M c s) := propext (mv_R_iff (i := .goto 4) (len := 3) (ax := [143]) (by decide +kernel))
theorem e126_142 : mr126 S P 142 L st sh M c s = (mr126 S P 143 L (.int (nI 1) :: st) sh M c s) := propext (mv_R_iff (i := .iconst 1) (len := 1) (ax := []) (by decide +kernel))
theorem e126_143 {y : Int32} {x : Int32} : mr126 S P 143 L (.int y :: .int x :: st) sh M c s = (¬ y = nI 0 ∧ mr126 S P 144 L (.int (x / y) :: st) sh M c s) := propext (mv_R_iff (i := .idiv) (len := 1) (ax := []) (by decide +kernel))
theorem e126_144 {x : Int32} : mr126 S P 144 L [.int x] sh M c s = (mv_nr 0 x ∧ P (some (.int x)) sh M) := propext (mv_R_iff (i := .ireturn) (len := 1) (ax := [0]) (by decide +kernel))
-- 127: TurnedTablets.tablet(II)I
def mk127 : mv_Cd := [
  (0, .aload_n 0, 1, []),
  (1, .iload_n 1, 1, []),
  (2, .invokevirtual 109, 3, [0, 91, 2, 4, 0, 0, 0, 598, 600, 20, 104, 601]),
  (5, .ifCond .ne 5, 3, [10]),
  (8, .iconst (-1), 1, []),
  (9, .ireturn, 1, [0]),
  (10, .iload_n 2, 1, []),
  (11, .tableswitch 120 0 6 #[41, 50, 60, 70, 88, 101, 111], 41, [131, 52, 61, 71, 81, 99, 112, 122]),
  (52, .aload_n 0, 1, []),
  (53, .getfield 19, 3, [524, 0, 4, 1]),
  (56, .iload_n 1, 1, []),
  (57, .invokevirtual 113, 3, [1, 59, 2, 1, 0, 0, 602, 604, 21, 109, 605]),
  (60, .ireturn, 1, [0]),
  (61, .aload_n 0, 1, []),
  (62, .getfield 35, 3, [526, 0, 4, 3]),
  (65, .iload_n 1, 1, []),
  (66, .iconst 3, 1, []),
  (67, .invokevirtual 117, 3, [1, 61, 3, 0, 0, 0, 606, 608, 22, 111, 609]),
  (70, .ireturn, 1, [0]),
  (71, .aload_n 0, 1, []),
  (72, .getfield 35, 3, [526, 0, 4, 3]),
  (75, .iload_n 1, 1, []),
  (76, .iconst 0, 1, []),
  (77, .invokevirtual 117, 3, [1, 61, 3, 0, 0, 0, 606, 608, 22, 111, 609]),
  (80, .ireturn, 1, [0]),
  (81, .aload_n 0, 1, []),
  (82, .getfield 19, 3, [524, 0, 4, 1]),
  (85, .iload_n 1, 1, []),
  (86, .aload_n 0, 1, []),
  (87, .getfield 35, 3, [526, 0, 4, 3]),
  (90, .iload_n 1, 1, []),
  (91, .iconst 0, 1, []),
  (92, .invokevirtual 117, 3, [1, 61, 3, 0, 0, 0, 606, 608, 22, 111, 609]),
  (95, .invokevirtual 121, 3, [1, 29, 3, 1, 0, 0, 610, 458, 10, 109, 459]),
  (98, .ireturn, 1, [0]),
  (99, .aload_n 0, 1, []),
  (100, .getfield 35, 3, [526, 0, 4, 3]),
  (103, .iload_n 1, 1, []),
  (104, .iconst 1, 1, []),
  (105, .invokevirtual 117, 3, [1, 61, 3, 0, 0, 0, 606, 608, 22, 111, 609]),
  (108, .bipush 40, 2, []),
  (110, .iadd, 1, []),
  (111, .ireturn, 1, [0]),
  (112, .aload_n 0, 1, []),
  (113, .getfield 35, 3, [526, 0, 4, 3]),
  (116, .iload_n 1, 1, []),
  (117, .iconst 2, 1, []),
  (118, .invokevirtual 117, 3, [1, 61, 3, 0, 0, 0, 606, 608, 22, 111, 609]),
  (121, .ireturn, 1, [0]),
  (122, .aload_n 0, 1, []),
  (123, .getfield 35, 3, [526, 0, 4, 3]),
  (126, .iload_n 1, 1, []),
  (127, .invokevirtual 124, 3, [1, 68, 2, 0, 0, 0, 611, 613, 23, 111, 614]),
  (130, .ireturn, 1, [0]),
  (131, .iconst (-1), 1, []),
  (132, .ireturn, 1, [0])]
def mr127 (S : Nat → mv_Sp) (P : mv_Post) : mv_Kt := mv_R mv_DF mk127 S (0, 0) P
theorem e127_0 : mr127 S P 0 L st sh M c s = (q_isA (q_gv L 0) ∧ mr127 S P 1 L (q_gv L 0 :: st) sh M c s) := (propext (mv_R_iff (i := .aload_n 0) (len := 1) (ax := []) (by decide +kernel))).trans (q_ldA_eq (K := fun st => mr127 S P 1 L st sh M c s))
theorem e127_1 : mr127 S P 1 L st sh M c s = (q_isI (q_gv L 1) ∧ mr127 S P 2 L (q_gv L 1 :: st) sh M c s) := (propext (mv_R_iff (i := .iload_n 1) (len := 1) (ax := []) (by decide +kernel))).trans (q_ldI_eq (K := fun st => mr127 S P 2 L st sh M c s))
theorem e127_2 {v2 : Value} {v1 : Value} : mr127 S P 2 L (v2 :: v1 :: st) sh M c s = (mv_ss st ≤ 8 ∧ c ≤ 0 ∧ s ≤ 0 ∧ mv_isO sh (some v1) 4 ∧ mv_kal S 91 [v1, v2] sh M (mr127 S P) 5 L st c s) := (propext (mv_R_iff (i := .invokevirtual 109) (len := 3) (ax := [0, 91, 2, 4, 0, 0, 0, 598, 600, 20, 104, 601]) (by decide +kernel))).trans (q_call0)
theorem e127_5 {x : Int32} : mr127 S P 5 L (.int x :: st) sh M c s = (if x = nI 0 then mr127 S P 8 L st sh M c s else mr127 S P 10 L st sh M c s) := (propext (mv_R_iff (i := .ifCond .ne 5) (len := 3) (ax := [10]) (by decide +kernel))).trans (q_br')
theorem e127_8 : mr127 S P 8 L st sh M c s = (mr127 S P 9 L (.int (Int32.ofInt (-1)) :: st) sh M c s) := propext (mv_R_iff (i := .iconst (-1)) (len := 1) (ax := []) (by decide +kernel))
theorem e127_9 {x : Int32} : mr127 S P 9 L [.int x] sh M c s = (mv_nr 0 x ∧ P (some (.int x)) sh M) := propext (mv_R_iff (i := .ireturn) (len := 1) (ax := [0]) (by decide +kernel))
theorem e127_10 : mr127 S P 10 L st sh M c s = (q_isI (q_gv L 2) ∧ mr127 S P 11 L (q_gv L 2 :: st) sh M c s) := (propext (mv_R_iff (i := .iload_n 2) (len := 1) (ax := []) (by decide +kernel))).trans (q_ldI_eq (K := fun st => mr127 S P 11 L st sh M c s))
theorem e127_11 {x : Int32} : mr127 S P 11 L (.int x :: st) sh M c s = (if x = (nI 0) then mr127 S P 52 L st sh M c s else if x = (nI 1) then mr127 S P 61 L st sh M c s else if x = (nI 2) then mr127 S P 71 L st sh M c s else if x = (nI 3) then mr127 S P 81 L st sh M c s else if x = (nI 4) then mr127 S P 99 L st sh M c s else if x = (nI 5) then mr127 S P 112 L st sh M c s else if x = (nI 6) then mr127 S P 122 L st sh M c s else mr127 S P 131 L st sh M c s) := (propext (mv_R_iff (i := .tableswitch 120 0 6 #[41, 50, 60, 70, 88, 101, 111]) (len := 41) (ax := [131, 52, 61, 71, 81, 99, 112, 122]) (by decide +kernel))).trans (q_sw7)
theorem e127_52 : mr127 S P 52 L st sh M c s = (q_isA (q_gv L 0) ∧ mr127 S P 53 L (q_gv L 0 :: st) sh M c s) := (propext (mv_R_iff (i := .aload_n 0) (len := 1) (ax := []) (by decide +kernel))).trans (q_ldA_eq (K := fun st => mr127 S P 53 L st sh M c s))
theorem e127_53 {a : Nat} : mr127 S P 53 L (.ref a :: st) sh M c s = (mv_kgf sh M a 4 1 (mr127 S P) 56 L st c s) := propext (mv_R_iff (i := .getfield 19) (len := 3) (ax := [524, 0, 4, 1]) (by decide +kernel))
theorem e127_56 : mr127 S P 56 L st sh M c s = (q_isI (q_gv L 1) ∧ mr127 S P 57 L (q_gv L 1 :: st) sh M c s) := (propext (mv_R_iff (i := .iload_n 1) (len := 1) (ax := []) (by decide +kernel))).trans (q_ldI_eq (K := fun st => mr127 S P 57 L st sh M c s))
theorem e127_57 {v2 : Value} {v1 : Value} : mr127 S P 57 L (v2 :: v1 :: st) sh M c s = (mv_ss st ≤ 8 ∧ c ≤ 0 ∧ s ≤ 0 ∧ mv_isO sh (some v1) 1 ∧ mv_kal S 59 [v1, v2] sh M (mr127 S P) 60 L st c s) := (propext (mv_R_iff (i := .invokevirtual 113) (len := 3) (ax := [1, 59, 2, 1, 0, 0, 602, 604, 21, 109, 605]) (by decide +kernel))).trans (q_call1)
theorem e127_60 {x : Int32} : mr127 S P 60 L [.int x] sh M c s = (mv_nr 0 x ∧ P (some (.int x)) sh M) := propext (mv_R_iff (i := .ireturn) (len := 1) (ax := [0]) (by decide +kernel))
theorem e127_61 : mr127 S P 61 L st sh M c s = (q_isA (q_gv L 0) ∧ mr127 S P 62 L (q_gv L 0 :: st) sh M c s) := (propext (mv_R_iff (i := .aload_n 0) (len := 1) (ax := []) (by decide +kernel))).trans (q_ldA_eq (K := fun st => mr127 S P 62 L st sh M c s))
theorem e127_62 {a : Nat} : mr127 S P 62 L (.ref a :: st) sh M c s = (mv_kgf sh M a 4 3 (mr127 S P) 65 L st c s) := propext (mv_R_iff (i := .getfield 35) (len := 3) (ax := [526, 0, 4, 3]) (by decide +kernel))
theorem e127_65 : mr127 S P 65 L st sh M c s = (q_isI (q_gv L 1) ∧ mr127 S P 66 L (q_gv L 1 :: st) sh M c s) := (propext (mv_R_iff (i := .iload_n 1) (len := 1) (ax := []) (by decide +kernel))).trans (q_ldI_eq (K := fun st => mr127 S P 66 L st sh M c s))
theorem e127_66 : mr127 S P 66 L st sh M c s = (mr127 S P 67 L (.int (nI 3) :: st) sh M c s) := propext (mv_R_iff (i := .iconst 3) (len := 1) (ax := []) (by decide +kernel))
theorem e127_67 {v3 : Value} {v2 : Value} {v1 : Value} : mr127 S P 67 L (v3 :: v2 :: v1 :: st) sh M c s = (mv_ss st ≤ 8 ∧ c ≤ 0 ∧ s ≤ 0 ∧ mv_isO sh (some v1) 0 ∧ mv_kal S 61 [v1, v2, v3] sh M (mr127 S P) 70 L st c s) := (propext (mv_R_iff (i := .invokevirtual 117) (len := 3) (ax := [1, 61, 3, 0, 0, 0, 606, 608, 22, 111, 609]) (by decide +kernel))).trans (q_call1)
theorem e127_70 {x : Int32} : mr127 S P 70 L [.int x] sh M c s = (mv_nr 0 x ∧ P (some (.int x)) sh M) := propext (mv_R_iff (i := .ireturn) (len := 1) (ax := [0]) (by decide +kernel))
theorem e127_71 : mr127 S P 71 L st sh M c s = (q_isA (q_gv L 0) ∧ mr127 S P 72 L (q_gv L 0 :: st) sh M c s) := (propext (mv_R_iff (i := .aload_n 0) (len := 1) (ax := []) (by decide +kernel))).trans (q_ldA_eq (K := fun st => mr127 S P 72 L st sh M c s))
theorem e127_72 {a : Nat} : mr127 S P 72 L (.ref a :: st) sh M c s = (mv_kgf sh M a 4 3 (mr127 S P) 75 L st c s) := propext (mv_R_iff (i := .getfield 35) (len := 3) (ax := [526, 0, 4, 3]) (by decide +kernel))
theorem e127_75 : mr127 S P 75 L st sh M c s = (q_isI (q_gv L 1) ∧ mr127 S P 76 L (q_gv L 1 :: st) sh M c s) := (propext (mv_R_iff (i := .iload_n 1) (len := 1) (ax := []) (by decide +kernel))).trans (q_ldI_eq (K := fun st => mr127 S P 76 L st sh M c s))
theorem e127_76 : mr127 S P 76 L st sh M c s = (mr127 S P 77 L (.int (nI 0) :: st) sh M c s) := propext (mv_R_iff (i := .iconst 0) (len := 1) (ax := []) (by decide +kernel))
theorem e127_77 {v3 : Value} {v2 : Value} {v1 : Value} : mr127 S P 77 L (v3 :: v2 :: v1 :: st) sh M c s = (mv_ss st ≤ 8 ∧ c ≤ 0 ∧ s ≤ 0 ∧ mv_isO sh (some v1) 0 ∧ mv_kal S 61 [v1, v2, v3] sh M (mr127 S P) 80 L st c s) := (propext (mv_R_iff (i := .invokevirtual 117) (len := 3) (ax := [1, 61, 3, 0, 0, 0, 606, 608, 22, 111, 609]) (by decide +kernel))).trans (q_call1)
theorem e127_80 {x : Int32} : mr127 S P 80 L [.int x] sh M c s = (mv_nr 0 x ∧ P (some (.int x)) sh M) := propext (mv_R_iff (i := .ireturn) (len := 1) (ax := [0]) (by decide +kernel))
theorem e127_81 : mr127 S P 81 L st sh M c s = (q_isA (q_gv L 0) ∧ mr127 S P 82 L (q_gv L 0 :: st) sh M c s) := (propext (mv_R_iff (i := .aload_n 0) (len := 1) (ax := []) (by decide +kernel))).trans (q_ldA_eq (K := fun st => mr127 S P 82 L st sh M c s))
theorem e127_82 {a : Nat} : mr127 S P 82 L (.ref a :: st) sh M c s = (mv_kgf sh M a 4 1 (mr127 S P) 85 L st c s) := propext (mv_R_iff (i := .getfield 19) (len := 3) (ax := [524, 0, 4, 1]) (by decide +kernel))
theorem e127_85 : mr127 S P 85 L st sh M c s = (q_isI (q_gv L 1) ∧ mr127 S P 86 L (q_gv L 1 :: st) sh M c s) := (propext (mv_R_iff (i := .iload_n 1) (len := 1) (ax := []) (by decide +kernel))).trans (q_ldI_eq (K := fun st => mr127 S P 86 L st sh M c s))
theorem e127_86 : mr127 S P 86 L st sh M c s = (q_isA (q_gv L 0) ∧ mr127 S P 87 L (q_gv L 0 :: st) sh M c s) := (propext (mv_R_iff (i := .aload_n 0) (len := 1) (ax := []) (by decide +kernel))).trans (q_ldA_eq (K := fun st => mr127 S P 87 L st sh M c s))
theorem e127_87 {a : Nat} : mr127 S P 87 L (.ref a :: st) sh M c s = (mv_kgf sh M a 4 3 (mr127 S P) 90 L st c s) := propext (mv_R_iff (i := .getfield 35) (len := 3) (ax := [526, 0, 4, 3]) (by decide +kernel))
theorem e127_90 : mr127 S P 90 L st sh M c s = (q_isI (q_gv L 1) ∧ mr127 S P 91 L (q_gv L 1 :: st) sh M c s) := (propext (mv_R_iff (i := .iload_n 1) (len := 1) (ax := []) (by decide +kernel))).trans (q_ldI_eq (K := fun st => mr127 S P 91 L st sh M c s))
theorem e127_91 : mr127 S P 91 L st sh M c s = (mr127 S P 92 L (.int (nI 0) :: st) sh M c s) := propext (mv_R_iff (i := .iconst 0) (len := 1) (ax := []) (by decide +kernel))
theorem e127_92 {v3 : Value} {v2 : Value} {v1 : Value} : mr127 S P 92 L (v3 :: v2 :: v1 :: st) sh M c s = (mv_ss st ≤ 8 ∧ c ≤ 0 ∧ s ≤ 0 ∧ mv_isO sh (some v1) 0 ∧ mv_kal S 61 [v1, v2, v3] sh M (mr127 S P) 95 L st c s) := (propext (mv_R_iff (i := .invokevirtual 117) (len := 3) (ax := [1, 61, 3, 0, 0, 0, 606, 608, 22, 111, 609]) (by decide +kernel))).trans (q_call1)
theorem e127_95 {v3 : Value} {v2 : Value} {v1 : Value} : mr127 S P 95 L (v3 :: v2 :: v1 :: st) sh M c s = (mv_ss st ≤ 8 ∧ c ≤ 0 ∧ s ≤ 0 ∧ mv_isO sh (some v1) 1 ∧ mv_kal S 29 [v1, v2, v3] sh M (mr127 S P) 98 L st c s) := (propext (mv_R_iff (i := .invokevirtual 121) (len := 3) (ax := [1, 29, 3, 1, 0, 0, 610, 458, 10, 109, 459]) (by decide +kernel))).trans (q_call1)
theorem e127_98 {x : Int32} : mr127 S P 98 L [.int x] sh M c s = (mv_nr 0 x ∧ P (some (.int x)) sh M) := propext (mv_R_iff (i := .ireturn) (len := 1) (ax := [0]) (by decide +kernel))
theorem e127_99 : mr127 S P 99 L st sh M c s = (q_isA (q_gv L 0) ∧ mr127 S P 100 L (q_gv L 0 :: st) sh M c s) := (propext (mv_R_iff (i := .aload_n 0) (len := 1) (ax := []) (by decide +kernel))).trans (q_ldA_eq (K := fun st => mr127 S P 100 L st sh M c s))
theorem e127_100 {a : Nat} : mr127 S P 100 L (.ref a :: st) sh M c s = (mv_kgf sh M a 4 3 (mr127 S P) 103 L st c s) := propext (mv_R_iff (i := .getfield 35) (len := 3) (ax := [526, 0, 4, 3]) (by decide +kernel))
theorem e127_103 : mr127 S P 103 L st sh M c s = (q_isI (q_gv L 1) ∧ mr127 S P 104 L (q_gv L 1 :: st) sh M c s) := (propext (mv_R_iff (i := .iload_n 1) (len := 1) (ax := []) (by decide +kernel))).trans (q_ldI_eq (K := fun st => mr127 S P 104 L st sh M c s))
theorem e127_104 : mr127 S P 104 L st sh M c s = (mr127 S P 105 L (.int (nI 1) :: st) sh M c s) := propext (mv_R_iff (i := .iconst 1) (len := 1) (ax := []) (by decide +kernel))
theorem e127_105 {v3 : Value} {v2 : Value} {v1 : Value} : mr127 S P 105 L (v3 :: v2 :: v1 :: st) sh M c s = (mv_ss st ≤ 8 ∧ c ≤ 0 ∧ s ≤ 0 ∧ mv_isO sh (some v1) 0 ∧ mv_kal S 61 [v1, v2, v3] sh M (mr127 S P) 108 L st c s) := (propext (mv_R_iff (i := .invokevirtual 117) (len := 3) (ax := [1, 61, 3, 0, 0, 0, 606, 608, 22, 111, 609]) (by decide +kernel))).trans (q_call1)
theorem e127_108 : mr127 S P 108 L st sh M c s = (mr127 S P 110 L (.int (nI 40) :: st) sh M c s) := propext (mv_R_iff (i := .bipush 40) (len := 2) (ax := []) (by decide +kernel))
theorem e127_110 {y : Int32} {x : Int32} : mr127 S P 110 L (.int y :: .int x :: st) sh M c s = (mr127 S P 111 L (.int (x + y) :: st) sh M c s) := propext (mv_R_iff (i := .iadd) (len := 1) (ax := []) (by decide +kernel))
theorem e127_111 {x : Int32} : mr127 S P 111 L [.int x] sh M c s = (mv_nr 0 x ∧ P (some (.int x)) sh M) := propext (mv_R_iff (i := .ireturn) (len := 1) (ax := [0]) (by decide +kernel))
theorem e127_112 : mr127 S P 112 L st sh M c s = (q_isA (q_gv L 0) ∧ mr127 S P 113 L (q_gv L 0 :: st) sh M c s) := (propext (mv_R_iff (i := .aload_n 0) (len := 1) (ax := []) (by decide +kernel))).trans (q_ldA_eq (K := fun st => mr127 S P 113 L st sh M c s))
theorem e127_113 {a : Nat} : mr127 S P 113 L (.ref a :: st) sh M c s = (mv_kgf sh M a 4 3 (mr127 S P) 116 L st c s) := propext (mv_R_iff (i := .getfield 35) (len := 3) (ax := [526, 0, 4, 3]) (by decide +kernel))
theorem e127_116 : mr127 S P 116 L st sh M c s = (q_isI (q_gv L 1) ∧ mr127 S P 117 L (q_gv L 1 :: st) sh M c s) := (propext (mv_R_iff (i := .iload_n 1) (len := 1) (ax := []) (by decide +kernel))).trans (q_ldI_eq (K := fun st => mr127 S P 117 L st sh M c s))
theorem e127_117 : mr127 S P 117 L st sh M c s = (mr127 S P 118 L (.int (nI 2) :: st) sh M c s) := propext (mv_R_iff (i := .iconst 2) (len := 1) (ax := []) (by decide +kernel))
theorem e127_118 {v3 : Value} {v2 : Value} {v1 : Value} : mr127 S P 118 L (v3 :: v2 :: v1 :: st) sh M c s = (mv_ss st ≤ 8 ∧ c ≤ 0 ∧ s ≤ 0 ∧ mv_isO sh (some v1) 0 ∧ mv_kal S 61 [v1, v2, v3] sh M (mr127 S P) 121 L st c s) := (propext (mv_R_iff (i := .invokevirtual 117) (len := 3) (ax := [1, 61, 3, 0, 0, 0, 606, 608, 22, 111, 609]) (by decide +kernel))).trans (q_call1)
theorem e127_121 {x : Int32} : mr127 S P 121 L [.int x] sh M c s = (mv_nr 0 x ∧ P (some (.int x)) sh M) := propext (mv_R_iff (i := .ireturn) (len := 1) (ax := [0]) (by decide +kernel))
theorem e127_122 : mr127 S P 122 L st sh M c s = (q_isA (q_gv L 0) ∧ mr127 S P 123 L (q_gv L 0 :: st) sh M c s) := (propext (mv_R_iff (i := .aload_n 0) (len := 1) (ax := []) (by decide +kernel))).trans (q_ldA_eq (K := fun st => mr127 S P 123 L st sh M c s))
theorem e127_123 {a : Nat} : mr127 S P 123 L (.ref a :: st) sh M c s = (mv_kgf sh M a 4 3 (mr127 S P) 126 L st c s) := propext (mv_R_iff (i := .getfield 35) (len := 3) (ax := [526, 0, 4, 3]) (by decide +kernel))
theorem e127_126 : mr127 S P 126 L st sh M c s = (q_isI (q_gv L 1) ∧ mr127 S P 127 L (q_gv L 1 :: st) sh M c s) := (propext (mv_R_iff (i := .iload_n 1) (len := 1) (ax := []) (by decide +kernel))).trans (q_ldI_eq (K := fun st => mr127 S P 127 L st sh M c s))
theorem e127_127 {v2 : Value} {v1 : Value} : mr127 S P 127 L (v2 :: v1 :: st) sh M c s = (mv_ss st ≤ 8 ∧ c ≤ 0 ∧ s ≤ 0 ∧ mv_isO sh (some v1) 0 ∧ mv_kal S 68 [v1, v2] sh M (mr127 S P) 130 L st c s) := (propext (mv_R_iff (i := .invokevirtual 124) (len := 3) (ax := [1, 68, 2, 0, 0, 0, 611, 613, 23, 111, 614]) (by decide +kernel))).trans (q_call1)
theorem e127_130 {x : Int32} : mr127 S P 130 L [.int x] sh M c s = (mv_nr 0 x ∧ P (some (.int x)) sh M) := propext (mv_R_iff (i := .ireturn) (len := 1) (ax := [0]) (by decide +kernel))
theorem e127_131 : mr127 S P 131 L st sh M c s = (mr127 S P 132 L (.int (Int32.ofInt (-1)) :: st) sh M c s) := propext (mv_R_iff (i := .iconst (-1)) (len := 1) (ax := []) (by decide +kernel))
theorem e127_132 {x : Int32} : mr127 S P 132 L [.int x] sh M c s = (mv_nr 0 x ∧ P (some (.int x)) sh M) := propext (mv_R_iff (i := .ireturn) (len := 1) (ax := [0]) (by decide +kernel))
-- 129: TurnedTablets.turn(II)I
def mk129 : mv_Cd := [
  (0, .aload_n 0, 1, []),
  (1, .iload_n 1, 1, []),
  (2, .invokevirtual 109, 3, [0, 91, 2, 4, 0, 0, 0, 598, 600, 20, 104, 601]),
  (5, .ifCond .eq 10, 3, [15]),
  (8, .iload_n 2, 1, []),
  (9, .invokestatic 157, 3, [3, 108, 1, 0, 0, 0, 0, 676, 677, 104, 678]),
  (12, .ifCond .ne 5, 3, [17]),
  (15, .iconst (-1), 1, []),
  (16, .ireturn, 1, [0]),
  (17, .aload_n 0, 1, []),
  (18, .getfield 35, 3, [526, 0, 4, 3]),
  (21, .aload_n 0, 1, []),
  (22, .getfield 19, 3, [524, 0, 4, 1]),
  (25, .iload_n 1, 1, []),
  (26, .iload_n 2, 1, []),
  (27, .invokevirtual 176, 3, [1, 62, 4, 0, 0, 0, 747, 708, 38, 111, 709]),
  (30, .iconst 2, 1, []),
  (31, .if_icmp .ne 6, 3, [37]),
  (34, .bipush (-2), 2, []),
  (36, .ireturn, 1, [0]),
  (37, .aload_n 0, 1, []),
  (38, .invokevirtual 160, 3, [0, 53, 1, 4, 0, 0, 0, 679, 681, 32, 104, 682]),
  (41, .aload_n 0, 1, []),
  (42, .getfield 35, 3, [526, 0, 4, 3]),
  (45, .aload_n 0, 1, []),
  (46, .getfield 19, 3, [524, 0, 4, 1]),
  (49, .iload_n 1, 1, []),
  (50, .iload_n 2, 1, []),
  (51, .invokevirtual 179, 3, [1, 63, 4, 0, 0, 0, 748, 704, 37, 111, 705]),
  (54, .pop, 1, []),
  (55, .aload_n 0, 1, []),
  (56, .getfield 35, 3, [526, 0, 4, 3]),
  (59, .iload_n 1, 1, []),
  (60, .iconst 0, 1, []),
  (61, .invokevirtual 117, 3, [1, 61, 3, 0, 0, 0, 606, 608, 22, 111, 609]),
  (64, .ireturn, 1, [0])]
def mr129 (S : Nat → mv_Sp) (P : mv_Post) : mv_Kt := mv_R mv_DF mk129 S (0, 0) P
theorem e129_0 : mr129 S P 0 L st sh M c s = (q_isA (q_gv L 0) ∧ mr129 S P 1 L (q_gv L 0 :: st) sh M c s) := (propext (mv_R_iff (i := .aload_n 0) (len := 1) (ax := []) (by decide +kernel))).trans (q_ldA_eq (K := fun st => mr129 S P 1 L st sh M c s))
theorem e129_1 : mr129 S P 1 L st sh M c s = (q_isI (q_gv L 1) ∧ mr129 S P 2 L (q_gv L 1 :: st) sh M c s) := (propext (mv_R_iff (i := .iload_n 1) (len := 1) (ax := []) (by decide +kernel))).trans (q_ldI_eq (K := fun st => mr129 S P 2 L st sh M c s))
theorem e129_2 {v2 : Value} {v1 : Value} : mr129 S P 2 L (v2 :: v1 :: st) sh M c s = (mv_ss st ≤ 8 ∧ c ≤ 0 ∧ s ≤ 0 ∧ mv_isO sh (some v1) 4 ∧ mv_kal S 91 [v1, v2] sh M (mr129 S P) 5 L st c s) := (propext (mv_R_iff (i := .invokevirtual 109) (len := 3) (ax := [0, 91, 2, 4, 0, 0, 0, 598, 600, 20, 104, 601]) (by decide +kernel))).trans (q_call0)
theorem e129_5 {x : Int32} : mr129 S P 5 L (.int x :: st) sh M c s = (if x = nI 0 then mr129 S P 15 L st sh M c s else mr129 S P 8 L st sh M c s) := (propext (mv_R_iff (i := .ifCond .eq 10) (len := 3) (ax := [15]) (by decide +kernel))).trans (q_br)
theorem e129_8 : mr129 S P 8 L st sh M c s = (q_isI (q_gv L 2) ∧ mr129 S P 9 L (q_gv L 2 :: st) sh M c s) := (propext (mv_R_iff (i := .iload_n 2) (len := 1) (ax := []) (by decide +kernel))).trans (q_ldI_eq (K := fun st => mr129 S P 9 L st sh M c s))
theorem e129_9 {v1 : Value} : mr129 S P 9 L (v1 :: st) sh M c s = (mv_ss st ≤ 8 ∧ c ≤ 0 ∧ s ≤ 0 ∧ True ∧ mv_kal S 108 [v1] sh M (mr129 S P) 12 L st c s) := (propext (mv_R_iff (i := .invokestatic 157) (len := 3) (ax := [3, 108, 1, 0, 0, 0, 0, 676, 677, 104, 678]) (by decide +kernel))).trans (q_call3)
theorem e129_12 {x : Int32} : mr129 S P 12 L (.int x :: st) sh M c s = (if x = nI 0 then mr129 S P 15 L st sh M c s else mr129 S P 17 L st sh M c s) := (propext (mv_R_iff (i := .ifCond .ne 5) (len := 3) (ax := [17]) (by decide +kernel))).trans (q_br')
theorem e129_15 : mr129 S P 15 L st sh M c s = (mr129 S P 16 L (.int (Int32.ofInt (-1)) :: st) sh M c s) := propext (mv_R_iff (i := .iconst (-1)) (len := 1) (ax := []) (by decide +kernel))
theorem e129_16 {x : Int32} : mr129 S P 16 L [.int x] sh M c s = (mv_nr 0 x ∧ P (some (.int x)) sh M) := propext (mv_R_iff (i := .ireturn) (len := 1) (ax := [0]) (by decide +kernel))
theorem e129_17 : mr129 S P 17 L st sh M c s = (q_isA (q_gv L 0) ∧ mr129 S P 18 L (q_gv L 0 :: st) sh M c s) := (propext (mv_R_iff (i := .aload_n 0) (len := 1) (ax := []) (by decide +kernel))).trans (q_ldA_eq (K := fun st => mr129 S P 18 L st sh M c s))
theorem e129_18 {a : Nat} : mr129 S P 18 L (.ref a :: st) sh M c s = (mv_kgf sh M a 4 3 (mr129 S P) 21 L st c s) := propext (mv_R_iff (i := .getfield 35) (len := 3) (ax := [526, 0, 4, 3]) (by decide +kernel))
theorem e129_21 : mr129 S P 21 L st sh M c s = (q_isA (q_gv L 0) ∧ mr129 S P 22 L (q_gv L 0 :: st) sh M c s) := (propext (mv_R_iff (i := .aload_n 0) (len := 1) (ax := []) (by decide +kernel))).trans (q_ldA_eq (K := fun st => mr129 S P 22 L st sh M c s))
theorem e129_22 {a : Nat} : mr129 S P 22 L (.ref a :: st) sh M c s = (mv_kgf sh M a 4 1 (mr129 S P) 25 L st c s) := propext (mv_R_iff (i := .getfield 19) (len := 3) (ax := [524, 0, 4, 1]) (by decide +kernel))
theorem e129_25 : mr129 S P 25 L st sh M c s = (q_isI (q_gv L 1) ∧ mr129 S P 26 L (q_gv L 1 :: st) sh M c s) := (propext (mv_R_iff (i := .iload_n 1) (len := 1) (ax := []) (by decide +kernel))).trans (q_ldI_eq (K := fun st => mr129 S P 26 L st sh M c s))
theorem e129_26 : mr129 S P 26 L st sh M c s = (q_isI (q_gv L 2) ∧ mr129 S P 27 L (q_gv L 2 :: st) sh M c s) := (propext (mv_R_iff (i := .iload_n 2) (len := 1) (ax := []) (by decide +kernel))).trans (q_ldI_eq (K := fun st => mr129 S P 27 L st sh M c s))
theorem e129_27 {v4 : Value} {v3 : Value} {v2 : Value} {v1 : Value} : mr129 S P 27 L (v4 :: v3 :: v2 :: v1 :: st) sh M c s = (mv_ss st ≤ 8 ∧ c ≤ 0 ∧ s ≤ 0 ∧ mv_isO sh (some v1) 0 ∧ mv_kal S 62 [v1, v2, v3, v4] sh M (mr129 S P) 30 L st c s) := (propext (mv_R_iff (i := .invokevirtual 176) (len := 3) (ax := [1, 62, 4, 0, 0, 0, 747, 708, 38, 111, 709]) (by decide +kernel))).trans (q_call1)
theorem e129_30 : mr129 S P 30 L st sh M c s = (mr129 S P 31 L (.int (nI 2) :: st) sh M c s) := propext (mv_R_iff (i := .iconst 2) (len := 1) (ax := []) (by decide +kernel))
theorem e129_31 {y : Int32} {x : Int32} : mr129 S P 31 L (.int y :: .int x :: st) sh M c s = (if x = y then mr129 S P 34 L st sh M c s else mr129 S P 37 L st sh M c s) := (propext (mv_R_iff (i := .if_icmp .ne 6) (len := 3) (ax := [37]) (by decide +kernel))).trans (q_br')
theorem e129_34 : mr129 S P 34 L st sh M c s = (mr129 S P 36 L (.int (Int32.ofInt (-2)) :: st) sh M c s) := (propext (mv_R_iff (i := .bipush (-2)) (len := 2) (ax := []) (by decide +kernel))).trans (congrArg (fun z => mr129 S P 36 L (.int z :: st) sh M c s) (by decide : (Int8.ofInt (-2)).toInt32 = Int32.ofInt (-2)))
theorem e129_36 {x : Int32} : mr129 S P 36 L [.int x] sh M c s = (mv_nr 0 x ∧ P (some (.int x)) sh M) := propext (mv_R_iff (i := .ireturn) (len := 1) (ax := [0]) (by decide +kernel))
theorem e129_37 : mr129 S P 37 L st sh M c s = (q_isA (q_gv L 0) ∧ mr129 S P 38 L (q_gv L 0 :: st) sh M c s) := (propext (mv_R_iff (i := .aload_n 0) (len := 1) (ax := []) (by decide +kernel))).trans (q_ldA_eq (K := fun st => mr129 S P 38 L st sh M c s))
theorem e129_38 {v1 : Value} : mr129 S P 38 L (v1 :: st) sh M c s = (mv_ss st ≤ 8 ∧ c ≤ 0 ∧ s ≤ 0 ∧ mv_isO sh (some v1) 4 ∧ mv_kal S 53 [v1] sh M (mr129 S P) 41 L st c s) := (propext (mv_R_iff (i := .invokevirtual 160) (len := 3) (ax := [0, 53, 1, 4, 0, 0, 0, 679, 681, 32, 104, 682]) (by decide +kernel))).trans (q_call0)
theorem e129_41 : mr129 S P 41 L st sh M c s = (q_isA (q_gv L 0) ∧ mr129 S P 42 L (q_gv L 0 :: st) sh M c s) := (propext (mv_R_iff (i := .aload_n 0) (len := 1) (ax := []) (by decide +kernel))).trans (q_ldA_eq (K := fun st => mr129 S P 42 L st sh M c s))
theorem e129_42 {a : Nat} : mr129 S P 42 L (.ref a :: st) sh M c s = (mv_kgf sh M a 4 3 (mr129 S P) 45 L st c s) := propext (mv_R_iff (i := .getfield 35) (len := 3) (ax := [526, 0, 4, 3]) (by decide +kernel))
theorem e129_45 : mr129 S P 45 L st sh M c s = (q_isA (q_gv L 0) ∧ mr129 S P 46 L (q_gv L 0 :: st) sh M c s) := (propext (mv_R_iff (i := .aload_n 0) (len := 1) (ax := []) (by decide +kernel))).trans (q_ldA_eq (K := fun st => mr129 S P 46 L st sh M c s))
theorem e129_46 {a : Nat} : mr129 S P 46 L (.ref a :: st) sh M c s = (mv_kgf sh M a 4 1 (mr129 S P) 49 L st c s) := propext (mv_R_iff (i := .getfield 19) (len := 3) (ax := [524, 0, 4, 1]) (by decide +kernel))
theorem e129_49 : mr129 S P 49 L st sh M c s = (q_isI (q_gv L 1) ∧ mr129 S P 50 L (q_gv L 1 :: st) sh M c s) := (propext (mv_R_iff (i := .iload_n 1) (len := 1) (ax := []) (by decide +kernel))).trans (q_ldI_eq (K := fun st => mr129 S P 50 L st sh M c s))
theorem e129_50 : mr129 S P 50 L st sh M c s = (q_isI (q_gv L 2) ∧ mr129 S P 51 L (q_gv L 2 :: st) sh M c s) := (propext (mv_R_iff (i := .iload_n 2) (len := 1) (ax := []) (by decide +kernel))).trans (q_ldI_eq (K := fun st => mr129 S P 51 L st sh M c s))
theorem e129_51 {v4 : Value} {v3 : Value} {v2 : Value} {v1 : Value} : mr129 S P 51 L (v4 :: v3 :: v2 :: v1 :: st) sh M c s = (mv_ss st ≤ 8 ∧ c ≤ 0 ∧ s ≤ 0 ∧ mv_isO sh (some v1) 0 ∧ mv_kal S 63 [v1, v2, v3, v4] sh M (mr129 S P) 54 L st c s) := (propext (mv_R_iff (i := .invokevirtual 179) (len := 3) (ax := [1, 63, 4, 0, 0, 0, 748, 704, 37, 111, 705]) (by decide +kernel))).trans (q_call1)
theorem e129_54 {x : Int32} : mr129 S P 54 L (.int x :: st) sh M c s = (mr129 S P 55 L st sh M c s) := propext (mv_R_iff (i := .pop) (len := 1) (ax := []) (by decide +kernel))
theorem e129_54r {x : Nat} : mr129 S P 54 L (.ref x :: st) sh M c s = (mr129 S P 55 L st sh M c s) := propext (mv_R_iff (i := .pop) (len := 1) (ax := []) (by decide +kernel))
theorem e129_55 : mr129 S P 55 L st sh M c s = (q_isA (q_gv L 0) ∧ mr129 S P 56 L (q_gv L 0 :: st) sh M c s) := (propext (mv_R_iff (i := .aload_n 0) (len := 1) (ax := []) (by decide +kernel))).trans (q_ldA_eq (K := fun st => mr129 S P 56 L st sh M c s))
theorem e129_56 {a : Nat} : mr129 S P 56 L (.ref a :: st) sh M c s = (mv_kgf sh M a 4 3 (mr129 S P) 59 L st c s) := propext (mv_R_iff (i := .getfield 35) (len := 3) (ax := [526, 0, 4, 3]) (by decide +kernel))
theorem e129_59 : mr129 S P 59 L st sh M c s = (q_isI (q_gv L 1) ∧ mr129 S P 60 L (q_gv L 1 :: st) sh M c s) := (propext (mv_R_iff (i := .iload_n 1) (len := 1) (ax := []) (by decide +kernel))).trans (q_ldI_eq (K := fun st => mr129 S P 60 L st sh M c s))
theorem e129_60 : mr129 S P 60 L st sh M c s = (mr129 S P 61 L (.int (nI 0) :: st) sh M c s) := propext (mv_R_iff (i := .iconst 0) (len := 1) (ax := []) (by decide +kernel))
theorem e129_61 {v3 : Value} {v2 : Value} {v1 : Value} : mr129 S P 61 L (v3 :: v2 :: v1 :: st) sh M c s = (mv_ss st ≤ 8 ∧ c ≤ 0 ∧ s ≤ 0 ∧ mv_isO sh (some v1) 0 ∧ mv_kal S 61 [v1, v2, v3] sh M (mr129 S P) 64 L st c s) := (propext (mv_R_iff (i := .invokevirtual 117) (len := 3) (ax := [1, 61, 3, 0, 0, 0, 606, 608, 22, 111, 609]) (by decide +kernel))).trans (q_call1)
theorem e129_64 {x : Int32} : mr129 S P 64 L [.int x] sh M c s = (mv_nr 0 x ∧ P (some (.int x)) sh M) := propext (mv_R_iff (i := .ireturn) (len := 1) (ax := [0]) (by decide +kernel))
-- 137: TurnedTablets.weave(II)I
def mk137 : mv_Cd := [
  (0, .aload_n 0, 1, []),
  (1, .iload_n 1, 1, []),
  (2, .invokevirtual 127, 3, [0, 107, 2, 4, 0, 0, 0, 624, 626, 24, 104, 627]),
  (5, .ifCond .eq 10, 3, [15]),
  (8, .iload_n 2, 1, []),
  (9, .invokestatic 157, 3, [3, 108, 1, 0, 0, 0, 0, 676, 677, 104, 678]),
  (12, .ifCond .ne 5, 3, [17]),
  (15, .iconst (-1), 1, []),
  (16, .ireturn, 1, [0]),
  (17, .aload_n 0, 1, []),
  (18, .getfield 35, 3, [526, 0, 4, 3]),
  (21, .getfield 148, 3, [239, 1, 0, 2]),
  (24, .bipush 24, 2, []),
  (26, .if_icmp .lt 6, 3, [32]),
  (29, .bipush (-3), 2, []),
  (31, .ireturn, 1, [0]),
  (32, .aload_n 0, 1, []),
  (33, .invokevirtual 160, 3, [0, 53, 1, 4, 0, 0, 0, 679, 681, 32, 104, 682]),
  (36, .aload_n 0, 1, []),
  (37, .getfield 35, 3, [526, 0, 4, 3]),
  (40, .aload_n 0, 1, []),
  (41, .getfield 19, 3, [524, 0, 4, 1]),
  (44, .iload_n 1, 1, []),
  (45, .iload_n 2, 1, []),
  (46, .invokevirtual 163, 3, [1, 70, 4, 0, 0, 0, 689, 691, 34, 111, 692]),
  (49, .pop, 1, []),
  (50, .aload_n 0, 1, []),
  (51, .getfield 19, 3, [524, 0, 4, 1]),
  (54, .aload_n 0, 1, []),
  (55, .getfield 35, 3, [526, 0, 4, 3]),
  (58, .invokevirtual 139, 3, [1, 66, 1, 0, 0, 0, 644, 646, 27, 111, 647]),
  (61, .invokevirtual 142, 3, [1, 67, 2, 1, 0, 0, 651, 653, 28, 109, 654]),
  (64, .ireturn, 1, [0])]
def mr137 (S : Nat → mv_Sp) (P : mv_Post) : mv_Kt := mv_R mv_DF mk137 S (0, 0) P
theorem e137_0 : mr137 S P 0 L st sh M c s = (q_isA (q_gv L 0) ∧ mr137 S P 1 L (q_gv L 0 :: st) sh M c s) := (propext (mv_R_iff (i := .aload_n 0) (len := 1) (ax := []) (by decide +kernel))).trans (q_ldA_eq (K := fun st => mr137 S P 1 L st sh M c s))
theorem e137_1 : mr137 S P 1 L st sh M c s = (q_isI (q_gv L 1) ∧ mr137 S P 2 L (q_gv L 1 :: st) sh M c s) := (propext (mv_R_iff (i := .iload_n 1) (len := 1) (ax := []) (by decide +kernel))).trans (q_ldI_eq (K := fun st => mr137 S P 2 L st sh M c s))
theorem e137_2 {v2 : Value} {v1 : Value} : mr137 S P 2 L (v2 :: v1 :: st) sh M c s = (mv_ss st ≤ 8 ∧ c ≤ 0 ∧ s ≤ 0 ∧ mv_isO sh (some v1) 4 ∧ mv_kal S 107 [v1, v2] sh M (mr137 S P) 5 L st c s) := (propext (mv_R_iff (i := .invokevirtual 127) (len := 3) (ax := [0, 107, 2, 4, 0, 0, 0, 624, 626, 24, 104, 627]) (by decide +kernel))).trans (q_call0)
theorem e137_5 {x : Int32} : mr137 S P 5 L (.int x :: st) sh M c s = (if x = nI 0 then mr137 S P 15 L st sh M c s else mr137 S P 8 L st sh M c s) := (propext (mv_R_iff (i := .ifCond .eq 10) (len := 3) (ax := [15]) (by decide +kernel))).trans (q_br)
theorem e137_8 : mr137 S P 8 L st sh M c s = (q_isI (q_gv L 2) ∧ mr137 S P 9 L (q_gv L 2 :: st) sh M c s) := (propext (mv_R_iff (i := .iload_n 2) (len := 1) (ax := []) (by decide +kernel))).trans (q_ldI_eq (K := fun st => mr137 S P 9 L st sh M c s))
theorem e137_9 {v1 : Value} : mr137 S P 9 L (v1 :: st) sh M c s = (mv_ss st ≤ 8 ∧ c ≤ 0 ∧ s ≤ 0 ∧ True ∧ mv_kal S 108 [v1] sh M (mr137 S P) 12 L st c s) := (propext (mv_R_iff (i := .invokestatic 157) (len := 3) (ax := [3, 108, 1, 0, 0, 0, 0, 676, 677, 104, 678]) (by decide +kernel))).trans (q_call3)
theorem e137_12 {x : Int32} : mr137 S P 12 L (.int x :: st) sh M c s = (if x = nI 0 then mr137 S P 15 L st sh M c s else mr137 S P 17 L st sh M c s) := (propext (mv_R_iff (i := .ifCond .ne 5) (len := 3) (ax := [17]) (by decide +kernel))).trans (q_br')
theorem e137_15 : mr137 S P 15 L st sh M c s = (mr137 S P 16 L (.int (Int32.ofInt (-1)) :: st) sh M c s) := propext (mv_R_iff (i := .iconst (-1)) (len := 1) (ax := []) (by decide +kernel))
theorem e137_16 {x : Int32} : mr137 S P 16 L [.int x] sh M c s = (mv_nr 0 x ∧ P (some (.int x)) sh M) := propext (mv_R_iff (i := .ireturn) (len := 1) (ax := [0]) (by decide +kernel))
theorem e137_17 : mr137 S P 17 L st sh M c s = (q_isA (q_gv L 0) ∧ mr137 S P 18 L (q_gv L 0 :: st) sh M c s) := (propext (mv_R_iff (i := .aload_n 0) (len := 1) (ax := []) (by decide +kernel))).trans (q_ldA_eq (K := fun st => mr137 S P 18 L st sh M c s))
theorem e137_18 {a : Nat} : mr137 S P 18 L (.ref a :: st) sh M c s = (mv_kgf sh M a 4 3 (mr137 S P) 21 L st c s) := propext (mv_R_iff (i := .getfield 35) (len := 3) (ax := [526, 0, 4, 3]) (by decide +kernel))
theorem e137_21 {a : Nat} : mr137 S P 21 L (.ref a :: st) sh M c s = (mv_kgf sh M a 0 2 (mr137 S P) 24 L st c s) := propext (mv_R_iff (i := .getfield 148) (len := 3) (ax := [239, 1, 0, 2]) (by decide +kernel))
theorem e137_24 : mr137 S P 24 L st sh M c s = (mr137 S P 26 L (.int (nI 24) :: st) sh M c s) := propext (mv_R_iff (i := .bipush 24) (len := 2) (ax := []) (by decide +kernel))
theorem e137_26 {y : Int32} {x : Int32} : mr137 S P 26 L (.int y :: .int x :: st) sh M c s = (if x < y then mr137 S P 32 L st sh M c s else mr137 S P 29 L st sh M c s) := (propext (mv_R_iff (i := .if_icmp .lt 6) (len := 3) (ax := [32]) (by decide +kernel))).trans (q_br)
theorem e137_29 : mr137 S P 29 L st sh M c s = (mr137 S P 31 L (.int (Int32.ofInt (-3)) :: st) sh M c s) := (propext (mv_R_iff (i := .bipush (-3)) (len := 2) (ax := []) (by decide +kernel))).trans (congrArg (fun z => mr137 S P 31 L (.int z :: st) sh M c s) (by decide : (Int8.ofInt (-3)).toInt32 = Int32.ofInt (-3)))
theorem e137_31 {x : Int32} : mr137 S P 31 L [.int x] sh M c s = (mv_nr 0 x ∧ P (some (.int x)) sh M) := propext (mv_R_iff (i := .ireturn) (len := 1) (ax := [0]) (by decide +kernel))
theorem e137_32 : mr137 S P 32 L st sh M c s = (q_isA (q_gv L 0) ∧ mr137 S P 33 L (q_gv L 0 :: st) sh M c s) := (propext (mv_R_iff (i := .aload_n 0) (len := 1) (ax := []) (by decide +kernel))).trans (q_ldA_eq (K := fun st => mr137 S P 33 L st sh M c s))
theorem e137_33 {v1 : Value} : mr137 S P 33 L (v1 :: st) sh M c s = (mv_ss st ≤ 8 ∧ c ≤ 0 ∧ s ≤ 0 ∧ mv_isO sh (some v1) 4 ∧ mv_kal S 53 [v1] sh M (mr137 S P) 36 L st c s) := (propext (mv_R_iff (i := .invokevirtual 160) (len := 3) (ax := [0, 53, 1, 4, 0, 0, 0, 679, 681, 32, 104, 682]) (by decide +kernel))).trans (q_call0)
theorem e137_36 : mr137 S P 36 L st sh M c s = (q_isA (q_gv L 0) ∧ mr137 S P 37 L (q_gv L 0 :: st) sh M c s) := (propext (mv_R_iff (i := .aload_n 0) (len := 1) (ax := []) (by decide +kernel))).trans (q_ldA_eq (K := fun st => mr137 S P 37 L st sh M c s))
theorem e137_37 {a : Nat} : mr137 S P 37 L (.ref a :: st) sh M c s = (mv_kgf sh M a 4 3 (mr137 S P) 40 L st c s) := propext (mv_R_iff (i := .getfield 35) (len := 3) (ax := [526, 0, 4, 3]) (by decide +kernel))
theorem e137_40 : mr137 S P 40 L st sh M c s = (q_isA (q_gv L 0) ∧ mr137 S P 41 L (q_gv L 0 :: st) sh M c s) := (propext (mv_R_iff (i := .aload_n 0) (len := 1) (ax := []) (by decide +kernel))).trans (q_ldA_eq (K := fun st => mr137 S P 41 L st sh M c s))
theorem e137_41 {a : Nat} : mr137 S P 41 L (.ref a :: st) sh M c s = (mv_kgf sh M a 4 1 (mr137 S P) 44 L st c s) := propext (mv_R_iff (i := .getfield 19) (len := 3) (ax := [524, 0, 4, 1]) (by decide +kernel))
theorem e137_44 : mr137 S P 44 L st sh M c s = (q_isI (q_gv L 1) ∧ mr137 S P 45 L (q_gv L 1 :: st) sh M c s) := (propext (mv_R_iff (i := .iload_n 1) (len := 1) (ax := []) (by decide +kernel))).trans (q_ldI_eq (K := fun st => mr137 S P 45 L st sh M c s))
theorem e137_45 : mr137 S P 45 L st sh M c s = (q_isI (q_gv L 2) ∧ mr137 S P 46 L (q_gv L 2 :: st) sh M c s) := (propext (mv_R_iff (i := .iload_n 2) (len := 1) (ax := []) (by decide +kernel))).trans (q_ldI_eq (K := fun st => mr137 S P 46 L st sh M c s))
theorem e137_46 {v4 : Value} {v3 : Value} {v2 : Value} {v1 : Value} : mr137 S P 46 L (v4 :: v3 :: v2 :: v1 :: st) sh M c s = (mv_ss st ≤ 8 ∧ c ≤ 0 ∧ s ≤ 0 ∧ mv_isO sh (some v1) 0 ∧ mv_kal S 70 [v1, v2, v3, v4] sh M (mr137 S P) 49 L st c s) := (propext (mv_R_iff (i := .invokevirtual 163) (len := 3) (ax := [1, 70, 4, 0, 0, 0, 689, 691, 34, 111, 692]) (by decide +kernel))).trans (q_call1)
theorem e137_49 {x : Int32} : mr137 S P 49 L (.int x :: st) sh M c s = (mr137 S P 50 L st sh M c s) := propext (mv_R_iff (i := .pop) (len := 1) (ax := []) (by decide +kernel))
theorem e137_49r {x : Nat} : mr137 S P 49 L (.ref x :: st) sh M c s = (mr137 S P 50 L st sh M c s) := propext (mv_R_iff (i := .pop) (len := 1) (ax := []) (by decide +kernel))
theorem e137_50 : mr137 S P 50 L st sh M c s = (q_isA (q_gv L 0) ∧ mr137 S P 51 L (q_gv L 0 :: st) sh M c s) := (propext (mv_R_iff (i := .aload_n 0) (len := 1) (ax := []) (by decide +kernel))).trans (q_ldA_eq (K := fun st => mr137 S P 51 L st sh M c s))
theorem e137_51 {a : Nat} : mr137 S P 51 L (.ref a :: st) sh M c s = (mv_kgf sh M a 4 1 (mr137 S P) 54 L st c s) := propext (mv_R_iff (i := .getfield 19) (len := 3) (ax := [524, 0, 4, 1]) (by decide +kernel))
theorem e137_54 : mr137 S P 54 L st sh M c s = (q_isA (q_gv L 0) ∧ mr137 S P 55 L (q_gv L 0 :: st) sh M c s) := (propext (mv_R_iff (i := .aload_n 0) (len := 1) (ax := []) (by decide +kernel))).trans (q_ldA_eq (K := fun st => mr137 S P 55 L st sh M c s))
theorem e137_55 {a : Nat} : mr137 S P 55 L (.ref a :: st) sh M c s = (mv_kgf sh M a 4 3 (mr137 S P) 58 L st c s) := propext (mv_R_iff (i := .getfield 35) (len := 3) (ax := [526, 0, 4, 3]) (by decide +kernel))
theorem e137_58 {v1 : Value} : mr137 S P 58 L (v1 :: st) sh M c s = (mv_ss st ≤ 8 ∧ c ≤ 0 ∧ s ≤ 0 ∧ mv_isO sh (some v1) 0 ∧ mv_kal S 66 [v1] sh M (mr137 S P) 61 L st c s) := (propext (mv_R_iff (i := .invokevirtual 139) (len := 3) (ax := [1, 66, 1, 0, 0, 0, 644, 646, 27, 111, 647]) (by decide +kernel))).trans (q_call1)
theorem e137_61 {v2 : Value} {v1 : Value} : mr137 S P 61 L (v2 :: v1 :: st) sh M c s = (mv_ss st ≤ 8 ∧ c ≤ 0 ∧ s ≤ 0 ∧ mv_isO sh (some v1) 1 ∧ mv_kal S 67 [v1, v2] sh M (mr137 S P) 64 L st c s) := (propext (mv_R_iff (i := .invokevirtual 142) (len := 3) (ax := [1, 67, 2, 1, 0, 0, 651, 653, 28, 109, 654]) (by decide +kernel))).trans (q_call1)
theorem e137_64 {x : Int32} : mr137 S P 64 L [.int x] sh M c s = (mv_nr 0 x ∧ P (some (.int x)) sh M) := propext (mv_R_iff (i := .ireturn) (len := 1) (ax := [0]) (by decide +kernel))
-- 138: TurnedTablets.wipe()I
def mk138 : mv_Cd := [
  (0, .aload_n 0, 1, []),
  (1, .getfield 12, 3, [523, 0, 4, 0]),
  (4, .invokevirtual 74, 3, [0, 20, 1, 6, 0, 0, 0, 567, 401, 402, 106, 403]),
  (7, .istore_n 1, 1, []),
  (8, .aload_n 0, 1, []),
  (9, .getfield 12, 3, [523, 0, 4, 0]),
  (12, .iconst 0, 1, []),
  (13, .invokevirtual 70, 3, [0, 49, 2, 6, 1, 96, 0, 503, 504, 505, 106, 506]),
  (16, .iload_n 1, 1, []),
  (17, .ireturn, 1, [0])]
def mr138 (S : Nat → mv_Sp) (P : mv_Post) : mv_Kt := mv_R mv_DF mk138 S (1, 96) P
theorem e138_0 : mr138 S P 0 L st sh M c s = (q_isA (q_gv L 0) ∧ mr138 S P 1 L (q_gv L 0 :: st) sh M c s) := (propext (mv_R_iff (i := .aload_n 0) (len := 1) (ax := []) (by decide +kernel))).trans (q_ldA_eq (K := fun st => mr138 S P 1 L st sh M c s))
theorem e138_1 {a : Nat} : mr138 S P 1 L (.ref a :: st) sh M c s = (mv_kgf sh M a 4 0 (mr138 S P) 4 L st c s) := propext (mv_R_iff (i := .getfield 12) (len := 3) (ax := [523, 0, 4, 0]) (by decide +kernel))
theorem e138_4 {v1 : Value} : mr138 S P 4 L (v1 :: st) sh M c s = (mv_ss st ≤ 8 ∧ c ≤ 1 ∧ s ≤ 96 ∧ mv_isO sh (some v1) 6 ∧ mv_kal S 20 [v1] sh M (mr138 S P) 7 L st c s) := (propext (mv_R_iff (i := .invokevirtual 74) (len := 3) (ax := [0, 20, 1, 6, 0, 0, 0, 567, 401, 402, 106, 403]) (by decide +kernel))).trans (q_call0)
theorem e138_7 {x : Int32} : mr138 S P 7 L (.int x :: st) sh M c s = (q_hs L 1 ∧ mr138 S P 8 (L.set 1 (some (.int x))) st sh M c s) := (propext (mv_R_iff (i := .istore_n 1) (len := 1) (ax := []) (by decide +kernel))).trans (q_st_eq (K := fun L => mr138 S P 8 L st sh M c s))
theorem e138_8 : mr138 S P 8 L st sh M c s = (q_isA (q_gv L 0) ∧ mr138 S P 9 L (q_gv L 0 :: st) sh M c s) := (propext (mv_R_iff (i := .aload_n 0) (len := 1) (ax := []) (by decide +kernel))).trans (q_ldA_eq (K := fun st => mr138 S P 9 L st sh M c s))
theorem e138_9 {a : Nat} : mr138 S P 9 L (.ref a :: st) sh M c s = (mv_kgf sh M a 4 0 (mr138 S P) 12 L st c s) := propext (mv_R_iff (i := .getfield 12) (len := 3) (ax := [523, 0, 4, 0]) (by decide +kernel))
theorem e138_12 : mr138 S P 12 L st sh M c s = (mr138 S P 13 L (.int (nI 0) :: st) sh M c s) := propext (mv_R_iff (i := .iconst 0) (len := 1) (ax := []) (by decide +kernel))
theorem e138_13 {v2 : Value} {v1 : Value} : mr138 S P 13 L (v2 :: v1 :: st) sh M c s = (mv_ss st ≤ 8 ∧ c + 1 ≤ 1 ∧ s + 96 ≤ 96 ∧ mv_isO sh (some v1) 6 ∧ mv_kal S 49 [v1, v2] sh M (mr138 S P) 16 L st (c + 1) (s + 96)) := (propext (mv_R_iff (i := .invokevirtual 70) (len := 3) (ax := [0, 49, 2, 6, 1, 96, 0, 503, 504, 505, 106, 506]) (by decide +kernel))).trans (q_call0)
theorem e138_16 : mr138 S P 16 L st sh M c s = (q_isI (q_gv L 1) ∧ mr138 S P 17 L (q_gv L 1 :: st) sh M c s) := (propext (mv_R_iff (i := .iload_n 1) (len := 1) (ax := []) (by decide +kernel))).trans (q_ldI_eq (K := fun st => mr138 S P 17 L st sh M c s))
theorem e138_17 {x : Int32} : mr138 S P 17 L [.int x] sh M c s = (mv_nr 0 x ∧ P (some (.int x)) sh M) := propext (mv_R_iff (i := .ireturn) (len := 1) (ax := [0]) (by decide +kernel))
-- 142: TurnedTablets.write(I)I
def mk142 : mv_Cd := [
  (0, .iload_n 1, 1, []),
  (1, .bipush 32, 2, []),
  (3, .if_icmp .lt 9, 3, [12]),
  (6, .iload_n 1, 1, []),
  (7, .bipush 126, 2, []),
  (9, .if_icmp .le 5, 3, [14]),
  (12, .iconst (-1), 1, []),
  (13, .ireturn, 1, [0]),
  (14, .aload_n 0, 1, []),
  (15, .getfield 12, 3, [523, 0, 4, 0]),
  (18, .invokevirtual 74, 3, [0, 20, 1, 6, 0, 0, 0, 567, 401, 402, 106, 403]),
  (21, .sipush 200, 3, []),
  (24, .if_icmp .lt 6, 3, [30]),
  (27, .bipush (-3), 2, []),
  (29, .ireturn, 1, [0]),
  (30, .aload_n 0, 1, []),
  (31, .getfield 12, 3, [523, 0, 4, 0]),
  (34, .iload_n 1, 1, []),
  (35, .i2c, 1, []),
  (36, .invokevirtual 77, 3, [0, 141, 2, 6, 1, 96, 0, 568, 569, 570, 106, 571]),
  (39, .pop, 1, []),
  (40, .aload_n 0, 1, []),
  (41, .getfield 12, 3, [523, 0, 4, 0]),
  (44, .invokevirtual 74, 3, [0, 20, 1, 6, 0, 0, 0, 567, 401, 402, 106, 403]),
  (47, .ireturn, 1, [0])]
def mr142 (S : Nat → mv_Sp) (P : mv_Post) : mv_Kt := mv_R mv_DF mk142 S (1, 96) P
theorem e142_0 : mr142 S P 0 L st sh M c s = (q_isI (q_gv L 1) ∧ mr142 S P 1 L (q_gv L 1 :: st) sh M c s) := (propext (mv_R_iff (i := .iload_n 1) (len := 1) (ax := []) (by decide +kernel))).trans (q_ldI_eq (K := fun st => mr142 S P 1 L st sh M c s))
theorem e142_1 : mr142 S P 1 L st sh M c s = (mr142 S P 3 L (.int (nI 32) :: st) sh M c s) := propext (mv_R_iff (i := .bipush 32) (len := 2) (ax := []) (by decide +kernel))
theorem e142_3 {y : Int32} {x : Int32} : mr142 S P 3 L (.int y :: .int x :: st) sh M c s = (if x < y then mr142 S P 12 L st sh M c s else mr142 S P 6 L st sh M c s) := (propext (mv_R_iff (i := .if_icmp .lt 9) (len := 3) (ax := [12]) (by decide +kernel))).trans (q_br)
theorem e142_6 : mr142 S P 6 L st sh M c s = (q_isI (q_gv L 1) ∧ mr142 S P 7 L (q_gv L 1 :: st) sh M c s) := (propext (mv_R_iff (i := .iload_n 1) (len := 1) (ax := []) (by decide +kernel))).trans (q_ldI_eq (K := fun st => mr142 S P 7 L st sh M c s))
theorem e142_7 : mr142 S P 7 L st sh M c s = (mr142 S P 9 L (.int (nI 126) :: st) sh M c s) := propext (mv_R_iff (i := .bipush 126) (len := 2) (ax := []) (by decide +kernel))
theorem e142_9 {y : Int32} {x : Int32} : mr142 S P 9 L (.int y :: .int x :: st) sh M c s = (if x ≤ y then mr142 S P 14 L st sh M c s else mr142 S P 12 L st sh M c s) := (propext (mv_R_iff (i := .if_icmp .le 5) (len := 3) (ax := [14]) (by decide +kernel))).trans (q_br)
theorem e142_12 : mr142 S P 12 L st sh M c s = (mr142 S P 13 L (.int (Int32.ofInt (-1)) :: st) sh M c s) := propext (mv_R_iff (i := .iconst (-1)) (len := 1) (ax := []) (by decide +kernel))
theorem e142_13 {x : Int32} : mr142 S P 13 L [.int x] sh M c s = (mv_nr 0 x ∧ P (some (.int x)) sh M) := propext (mv_R_iff (i := .ireturn) (len := 1) (ax := [0]) (by decide +kernel))
theorem e142_14 : mr142 S P 14 L st sh M c s = (q_isA (q_gv L 0) ∧ mr142 S P 15 L (q_gv L 0 :: st) sh M c s) := (propext (mv_R_iff (i := .aload_n 0) (len := 1) (ax := []) (by decide +kernel))).trans (q_ldA_eq (K := fun st => mr142 S P 15 L st sh M c s))
theorem e142_15 {a : Nat} : mr142 S P 15 L (.ref a :: st) sh M c s = (mv_kgf sh M a 4 0 (mr142 S P) 18 L st c s) := propext (mv_R_iff (i := .getfield 12) (len := 3) (ax := [523, 0, 4, 0]) (by decide +kernel))
theorem e142_18 {v1 : Value} : mr142 S P 18 L (v1 :: st) sh M c s = (mv_ss st ≤ 8 ∧ c ≤ 1 ∧ s ≤ 96 ∧ mv_isO sh (some v1) 6 ∧ mv_kal S 20 [v1] sh M (mr142 S P) 21 L st c s) := (propext (mv_R_iff (i := .invokevirtual 74) (len := 3) (ax := [0, 20, 1, 6, 0, 0, 0, 567, 401, 402, 106, 403]) (by decide +kernel))).trans (q_call0)
theorem e142_21 : mr142 S P 21 L st sh M c s = (mr142 S P 24 L (.int (nI 200) :: st) sh M c s) := propext (mv_R_iff (i := .sipush 200) (len := 3) (ax := []) (by decide +kernel))
theorem e142_24 {y : Int32} {x : Int32} : mr142 S P 24 L (.int y :: .int x :: st) sh M c s = (if x < y then mr142 S P 30 L st sh M c s else mr142 S P 27 L st sh M c s) := (propext (mv_R_iff (i := .if_icmp .lt 6) (len := 3) (ax := [30]) (by decide +kernel))).trans (q_br)
theorem e142_27 : mr142 S P 27 L st sh M c s = (mr142 S P 29 L (.int (Int32.ofInt (-3)) :: st) sh M c s) := (propext (mv_R_iff (i := .bipush (-3)) (len := 2) (ax := []) (by decide +kernel))).trans (congrArg (fun z => mr142 S P 29 L (.int z :: st) sh M c s) (by decide : (Int8.ofInt (-3)).toInt32 = Int32.ofInt (-3)))
theorem e142_29 {x : Int32} : mr142 S P 29 L [.int x] sh M c s = (mv_nr 0 x ∧ P (some (.int x)) sh M) := propext (mv_R_iff (i := .ireturn) (len := 1) (ax := [0]) (by decide +kernel))
theorem e142_30 : mr142 S P 30 L st sh M c s = (q_isA (q_gv L 0) ∧ mr142 S P 31 L (q_gv L 0 :: st) sh M c s) := (propext (mv_R_iff (i := .aload_n 0) (len := 1) (ax := []) (by decide +kernel))).trans (q_ldA_eq (K := fun st => mr142 S P 31 L st sh M c s))
theorem e142_31 {a : Nat} : mr142 S P 31 L (.ref a :: st) sh M c s = (mv_kgf sh M a 4 0 (mr142 S P) 34 L st c s) := propext (mv_R_iff (i := .getfield 12) (len := 3) (ax := [523, 0, 4, 0]) (by decide +kernel))
theorem e142_34 : mr142 S P 34 L st sh M c s = (q_isI (q_gv L 1) ∧ mr142 S P 35 L (q_gv L 1 :: st) sh M c s) := (propext (mv_R_iff (i := .iload_n 1) (len := 1) (ax := []) (by decide +kernel))).trans (q_ldI_eq (K := fun st => mr142 S P 35 L st sh M c s))
theorem e142_35 {x : Int32} : mr142 S P 35 L (.int x :: st) sh M c s = (mr142 S P 36 L (.int (q_ch x) :: st) sh M c s) := propext (mv_R_iff (i := .i2c) (len := 1) (ax := []) (by decide +kernel))
theorem e142_36 {v2 : Value} {v1 : Value} : mr142 S P 36 L (v2 :: v1 :: st) sh M c s = (mv_ss st ≤ 8 ∧ c + 1 ≤ 1 ∧ s + 96 ≤ 96 ∧ mv_isO sh (some v1) 6 ∧ mv_kal S 141 [v1, v2] sh M (mr142 S P) 39 L st (c + 1) (s + 96)) := (propext (mv_R_iff (i := .invokevirtual 77) (len := 3) (ax := [0, 141, 2, 6, 1, 96, 0, 568, 569, 570, 106, 571]) (by decide +kernel))).trans (q_call0)
theorem e142_39 {x : Int32} : mr142 S P 39 L (.int x :: st) sh M c s = (mr142 S P 40 L st sh M c s) := propext (mv_R_iff (i := .pop) (len := 1) (ax := []) (by decide +kernel))
theorem e142_39r {x : Nat} : mr142 S P 39 L (.ref x :: st) sh M c s = (mr142 S P 40 L st sh M c s) := propext (mv_R_iff (i := .pop) (len := 1) (ax := []) (by decide +kernel))
theorem e142_40 : mr142 S P 40 L st sh M c s = (q_isA (q_gv L 0) ∧ mr142 S P 41 L (q_gv L 0 :: st) sh M c s) := (propext (mv_R_iff (i := .aload_n 0) (len := 1) (ax := []) (by decide +kernel))).trans (q_ldA_eq (K := fun st => mr142 S P 41 L st sh M c s))
theorem e142_41 {a : Nat} : mr142 S P 41 L (.ref a :: st) sh M c s = (mv_kgf sh M a 4 0 (mr142 S P) 44 L st c s) := propext (mv_R_iff (i := .getfield 12) (len := 3) (ax := [523, 0, 4, 0]) (by decide +kernel))
theorem e142_44 {v1 : Value} : mr142 S P 44 L (v1 :: st) sh M c s = (mv_ss st ≤ 8 ∧ c ≤ 1 ∧ s ≤ 96 ∧ mv_isO sh (some v1) 6 ∧ mv_kal S 20 [v1] sh M (mr142 S P) 47 L st c s) := (propext (mv_R_iff (i := .invokevirtual 74) (len := 3) (ax := [0, 20, 1, 6, 0, 0, 0, 567, 401, 402, 106, 403]) (by decide +kernel))).trans (q_call0)
theorem e142_47 {x : Int32} : mr142 S P 47 L [.int x] sh M c s = (mv_nr 0 x ∧ P (some (.int x)) sh M) := propext (mv_R_iff (i := .ireturn) (len := 1) (ax := [0]) (by decide +kernel))
end CD
