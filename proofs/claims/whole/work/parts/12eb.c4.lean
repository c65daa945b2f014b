/-! code lists and step rows, written by program -/
section CD
variable {S : Nat → mv_Sp} {P : mv_Post} {L : mv_Loc} {st : List Value} {sh : mv_Shp} {M : mv_Mem} {c s : Nat}
-- 32: Reader.readTablet()Z
def mk32 : mv_Cd := [
  (0, .aload_n 0, 1, []),
  (1, .invokevirtual 54, 3, [0, 28, 1, 2, 0, 0, 0, 440, 442, 6, 110, 443]),
  (4, .istore_n 1, 1, []),
  (5, .iload_n 1, 1, []),
  (6, .ifCond .lt 17, 3, [23]),
  (9, .iload_n 1, 1, []),
  (10, .iconst 3, 1, []),
  (11, .if_icmp .gt 12, 3, [23]),
  (14, .aload_n 0, 1, []),
  (15, .invokevirtual 39, 3, [0, 26, 1, 2, 0, 0, 0, 411, 413, 3, 110, 414]),
  (18, .bipush 44, 2, []),
  (20, .if_icmp .eq 5, 3, [25]),
  (23, .iconst 0, 1, []),
  (24, .ireturn, 1, [1]),
  (25, .aload_n 0, 1, []),
  (26, .invokevirtual 54, 3, [0, 28, 1, 2, 0, 0, 0, 440, 442, 6, 110, 443]),
  (29, .istore_n 2, 1, []),
  (30, .iload_n 2, 1, []),
  (31, .ifCond .lt 17, 3, [48]),
  (34, .iload_n 2, 1, []),
  (35, .iconst 1, 1, []),
  (36, .if_icmp .gt 12, 3, [48]),
  (39, .aload_n 0, 1, []),
  (40, .invokevirtual 39, 3, [0, 26, 1, 2, 0, 0, 0, 411, 413, 3, 110, 414]),
  (43, .bipush 44, 2, []),
  (45, .if_icmp .eq 5, 3, [50]),
  (48, .iconst 0, 1, []),
  (49, .ireturn, 1, [1]),
  (50, .iconst 0, 1, []),
  (51, .istore_n 3, 1, []),
  (52, .iconst 0, 1, []),
  (53, .istore 4, 2, []),
  (55, .iload 4, 2, []),
  (57, .iconst 4, 1, []),
  (58, .if_icmp .ge 30, 3, [88]),
  (61, .aload_n 0, 1, []),
  (62, .invokevirtual 57, 3, [0, 27, 1, 2, 0, 0, 0, 444, 446, 7, 110, 447]),
  (65, .istore 5, 2, []),
  (67, .iload 5, 2, []),
  (69, .ifCond .ge 5, 3, [74]),
  (72, .iconst 0, 1, []),
  (73, .ireturn, 1, [1]),
  (74, .iload_n 3, 1, []),
  (75, .bipush 10, 2, []),
  (77, .imul, 1, []),
  (78, .iload 5, 2, []),
  (80, .iadd, 1, []),
  (81, .istore_n 3, 1, []),
  (82, .iinc 4 1, 3, []),
  (85, .goto (-30), 3, [55]),
  (88, .aload_n 0, 1, []),
  (89, .invokevirtual 39, 3, [0, 26, 1, 2, 0, 0, 0, 411, 413, 3, 110, 414]),
  (92, .bipush 59, 2, []),
  (94, .if_icmp .ne 20, 3, [114]),
  (97, .aload_n 0, 1, []),
  (98, .getfield 12, 3, [220, 0, 2, 1]),
  (101, .iload_n 1, 1, []),
  (102, .iload_n 2, 1, []),
  (103, .iload_n 3, 1, []),
  (104, .invokevirtual 60, 3, [1, 31, 4, 1, 0, 0, 448, 450, 8, 109, 451]),
  (107, .ifCond .eq 7, 3, [114]),
  (110, .iconst 1, 1, []),
  (111, .goto 4, 3, [115]),
  (114, .iconst 0, 1, []),
  (115, .ireturn, 1, [1])]
def mr32 (S : Nat → mv_Sp) (P : mv_Post) : mv_Kt := mv_R mv_DF mk32 S (0, 0) P
theorem e32_0 : mr32 S P 0 L st sh M c s = (q_isA (q_gv L 0) ∧ mr32 S P 1 L (q_gv L 0 :: st) sh M c s) := (propext (mv_R_iff (i := .aload_n 0) (len := 1) (ax := []) (by decide +kernel))).trans (q_ldA_eq (K := fun st => mr32 S P 1 L st sh M c s))
theorem e32_1 {v1 : Value} : mr32 S P 1 L (v1 :: st) sh M c s = (mv_ss st ≤ 8 ∧ c ≤ 0 ∧ s ≤ 0 ∧ mv_isO sh (some v1) 2 ∧ mv_kal S 28 [v1] sh M (mr32 S P) 4 L st c s) := (propext (mv_R_iff (i := .invokevirtual 54) (len := 3) (ax := [0, 28, 1, 2, 0, 0, 0, 440, 442, 6, 110, 443]) (by decide +kernel))).trans (q_call0)
theorem e32_4 {x : Int32} : mr32 S P 4 L (.int x :: st) sh M c s = (q_hs L 1 ∧ mr32 S P 5 (L.set 1 (some (.int x))) st sh M c s) := (propext (mv_R_iff (i := .istore_n 1) (len := 1) (ax := []) (by decide +kernel))).trans (q_st_eq (K := fun L => mr32 S P 5 L st sh M c s))
theorem e32_5 : mr32 S P 5 L st sh M c s = (q_isI (q_gv L 1) ∧ mr32 S P 6 L (q_gv L 1 :: st) sh M c s) := (propext (mv_R_iff (i := .iload_n 1) (len := 1) (ax := []) (by decide +kernel))).trans (q_ldI_eq (K := fun st => mr32 S P 6 L st sh M c s))
theorem e32_6 {x : Int32} : mr32 S P 6 L (.int x :: st) sh M c s = (if x < nI 0 then mr32 S P 23 L st sh M c s else mr32 S P 9 L st sh M c s) := (propext (mv_R_iff (i := .ifCond .lt 17) (len := 3) (ax := [23]) (by decide +kernel))).trans (q_br)
theorem e32_9 : mr32 S P 9 L st sh M c s = (q_isI (q_gv L 1) ∧ mr32 S P 10 L (q_gv L 1 :: st) sh M c s) := (propext (mv_R_iff (i := .iload_n 1) (len := 1) (ax := []) (by decide +kernel))).trans (q_ldI_eq (K := fun st => mr32 S P 10 L st sh M c s))
theorem e32_10 : mr32 S P 10 L st sh M c s = (mr32 S P 11 L (.int (nI 3) :: st) sh M c s) := propext (mv_R_iff (i := .iconst 3) (len := 1) (ax := []) (by decide +kernel))
theorem e32_11 {y : Int32} {x : Int32} : mr32 S P 11 L (.int y :: .int x :: st) sh M c s = (if y < x then mr32 S P 23 L st sh M c s else mr32 S P 14 L st sh M c s) := (propext (mv_R_iff (i := .if_icmp .gt 12) (len := 3) (ax := [23]) (by decide +kernel))).trans (q_br)
theorem e32_14 : mr32 S P 14 L st sh M c s = (q_isA (q_gv L 0) ∧ mr32 S P 15 L (q_gv L 0 :: st) sh M c s) := (propext (mv_R_iff (i := .aload_n 0) (len := 1) (ax := []) (by decide +kernel))).trans (q_ldA_eq (K := fun st => mr32 S P 15 L st sh M c s))
theorem e32_15 {v1 : Value} : mr32 S P 15 L (v1 :: st) sh M c s = (mv_ss st ≤ 8 ∧ c ≤ 0 ∧ s ≤ 0 ∧ mv_isO sh (some v1) 2 ∧ mv_kal S 26 [v1] sh M (mr32 S P) 18 L st c s) := (propext (mv_R_iff (i := .invokevirtual 39) (len := 3) (ax := [0, 26, 1, 2, 0, 0, 0, 411, 413, 3, 110, 414]) (by decide +kernel))).trans (q_call0)
theorem e32_18 : mr32 S P 18 L st sh M c s = (mr32 S P 20 L (.int (nI 44) :: st) sh M c s) := propext (mv_R_iff (i := .bipush 44) (len := 2) (ax := []) (by decide +kernel))
theorem e32_20 {y : Int32} {x : Int32} : mr32 S P 20 L (.int y :: .int x :: st) sh M c s = (if x = y then mr32 S P 25 L st sh M c s else mr32 S P 23 L st sh M c s) := (propext (mv_R_iff (i := .if_icmp .eq 5) (len := 3) (ax := [25]) (by decide +kernel))).trans (q_br)
theorem e32_23 : mr32 S P 23 L st sh M c s = (mr32 S P 24 L (.int (nI 0) :: st) sh M c s) := propext (mv_R_iff (i := .iconst 0) (len := 1) (ax := []) (by decide +kernel))
theorem e32_24 {x : Int32} : mr32 S P 24 L [.int x] sh M c s = (mv_nr 1 x ∧ P (some (.int x)) sh M) := propext (mv_R_iff (i := .ireturn) (len := 1) (ax := [1]) (by decide +kernel))
theorem e32_25 : mr32 S P 25 L st sh M c s = (q_isA (q_gv L 0) ∧ mr32 S P 26 L (q_gv L 0 :: st) sh M c s) := (propext (mv_R_iff (i := .aload_n 0) (len := 1) (ax := []) (by decide +kernel))).trans (q_ldA_eq (K := fun st => mr32 S P 26 L st sh M c s))
theorem e32_26 {v1 : Value} : mr32 S P 26 L (v1 :: st) sh M c s = (mv_ss st ≤ 8 ∧ c ≤ 0 ∧ s ≤ 0 ∧ mv_isO sh (some v1) 2 ∧ mv_kal S 28 [v1] sh M (mr32 S P) 29 L st c s) := (propext (mv_R_iff (i := .invokevirtual 54) (len := 3) (ax := [0, 28, 1, 2, 0, 0, 0, 440, 442, 6, 110, 443]) (by decide +kernel))).trans (q_call0)
theorem e32_29 {x : Int32} : mr32 S P 29 L (.int x :: st) sh M c s = (q_hs L 2 ∧ mr32 S P 30 (L.set 2 (some (.int x))) st sh M c s) := (propext (mv_R_iff (i := .istore_n 2) (len := 1) (ax := []) (by decide +kernel))).trans (q_st_eq (K := fun L => mr32 S P 30 L st sh M c s))
theorem e32_30 : mr32 S P 30 L st sh M c s = (q_isI (q_gv L 2) ∧ mr32 S P 31 L (q_gv L 2 :: st) sh M c s) := (propext (mv_R_iff (i := .iload_n 2) (len := 1) (ax := []) (by decide +kernel))).trans (q_ldI_eq (K := fun st => mr32 S P 31 L st sh M c s))
theorem e32_31 {x : Int32} : mr32 S P 31 L (.int x :: st) sh M c s = (if x < nI 0 then mr32 S P 48 L st sh M c s else mr32 S P 34 L st sh M c s) := (propext (mv_R_iff (i := .ifCond .lt 17) (len := 3) (ax := [48]) (by decide +kernel))).trans (q_br)
theorem e32_34 : mr32 S P 34 L st sh M c s = (q_isI (q_gv L 2) ∧ mr32 S P 35 L (q_gv L 2 :: st) sh M c s) := (propext (mv_R_iff (i := .iload_n 2) (len := 1) (ax := []) (by decide +kernel))).trans (q_ldI_eq (K := fun st => mr32 S P 35 L st sh M c s))
theorem e32_35 : mr32 S P 35 L st sh M c s = (mr32 S P 36 L (.int (nI 1) :: st) sh M c s) := propext (mv_R_iff (i := .iconst 1) (len := 1) (ax := []) (by decide +kernel))
theorem e32_36 {y : Int32} {x : Int32} : mr32 S P 36 L (.int y :: .int x :: st) sh M c s = (if y < x then mr32 S P 48 L st sh M c s else mr32 S P 39 L st sh M c s) := (propext (mv_R_iff (i := .if_icmp .gt 12) (len := 3) (ax := [48]) (by decide +kernel))).trans (q_br)
theorem e32_39 : mr32 S P 39 L st sh M c s = (q_isA (q_gv L 0) ∧ mr32 S P 40 L (q_gv L 0 :: st) sh M c s) := (propext (mv_R_iff (i := .aload_n 0) (len := 1) (ax := []) (by decide +kernel))).trans (q_ldA_eq (K := fun st => mr32 S P 40 L st sh M c s))
theorem e32_40 {v1 : Value} : mr32 S P 40 L (v1 :: st) sh M c s = (mv_ss st ≤ 8 ∧ c ≤ 0 ∧ s ≤ 0 ∧ mv_isO sh (some v1) 2 ∧ mv_kal S 26 [v1] sh M (mr32 S P) 43 L st c s) := (propext (mv_R_iff (i := .invokevirtual 39) (len := 3) (ax := [0, 26, 1, 2, 0, 0, 0, 411, 413, 3, 110, 414]) (by decide +kernel))).trans (q_call0)
theorem e32_43 : mr32 S P 43 L st sh M c s = (mr32 S P 45 L (.int (nI 44) :: st) sh M c s) := propext (mv_R_iff (i := .bipush 44) (len := 2) (ax := []) (by decide +kernel))
theorem e32_45 {y : Int32} {x : Int32} : mr32 S P 45 L (.int y :: .int x :: st) sh M c s = (if x = y then mr32 S P 50 L st sh M c s else mr32 S P 48 L st sh M c s) := (propext (mv_R_iff (i := .if_icmp .eq 5) (len := 3) (ax := [50]) (by decide +kernel))).trans (q_br)
theorem e32_48 : mr32 S P 48 L st sh M c s = (mr32 S P 49 L (.int (nI 0) :: st) sh M c s) := propext (mv_R_iff (i := .iconst 0) (len := 1) (ax := []) (by decide +kernel))
theorem e32_49 {x : Int32} : mr32 S P 49 L [.int x] sh M c s = (mv_nr 1 x ∧ P (some (.int x)) sh M) := propext (mv_R_iff (i := .ireturn) (len := 1) (ax := [1]) (by decide +kernel))
theorem e32_50 : mr32 S P 50 L st sh M c s = (mr32 S P 51 L (.int (nI 0) :: st) sh M c s) := propext (mv_R_iff (i := .iconst 0) (len := 1) (ax := []) (by decide +kernel))
theorem e32_51 {x : Int32} : mr32 S P 51 L (.int x :: st) sh M c s = (q_hs L 3 ∧ mr32 S P 52 (L.set 3 (some (.int x))) st sh M c s) := (propext (mv_R_iff (i := .istore_n 3) (len := 1) (ax := []) (by decide +kernel))).trans (q_st_eq (K := fun L => mr32 S P 52 L st sh M c s))
theorem e32_52 : mr32 S P 52 L st sh M c s = (mr32 S P 53 L (.int (nI 0) :: st) sh M c s) := propext (mv_R_iff (i := .iconst 0) (len := 1) (ax := []) (by decide +kernel))
theorem e32_53 {x : Int32} : mr32 S P 53 L (.int x :: st) sh M c s = (q_hs L 4 ∧ mr32 S P 55 (L.set 4 (some (.int x))) st sh M c s) := (propext (mv_R_iff (i := .istore 4) (len := 2) (ax := []) (by decide +kernel))).trans (q_st_eq (K := fun L => mr32 S P 55 L st sh M c s))
theorem e32_55 : mr32 S P 55 L st sh M c s = (q_isI (q_gv L 4) ∧ mr32 S P 57 L (q_gv L 4 :: st) sh M c s) := (propext (mv_R_iff (i := .iload 4) (len := 2) (ax := []) (by decide +kernel))).trans (q_ldI_eq (K := fun st => mr32 S P 57 L st sh M c s))
theorem e32_57 : mr32 S P 57 L st sh M c s = (mr32 S P 58 L (.int (nI 4) :: st) sh M c s) := propext (mv_R_iff (i := .iconst 4) (len := 1) (ax := []) (by decide +kernel))
theorem e32_58 {y : Int32} {x : Int32} : mr32 S P 58 L (.int y :: .int x :: st) sh M c s = (if y ≤ x then mr32 S P 88 L st sh M c s else mr32 S P 61 L st sh M c s) := (propext (mv_R_iff (i := .if_icmp .ge 30) (len := 3) (ax := [88]) (by decide +kernel))).trans (q_br)
theorem e32_61 : mr32 S P 61 L st sh M c s = (q_isA (q_gv L 0) ∧ mr32 S P 62 L (q_gv L 0 :: st) sh M c s) := (propext (mv_R_iff (i := .aload_n 0) (len := 1) (ax := []) (by decide +kernel))).trans (q_ldA_eq (K := fun st => mr32 S P 62 L st sh M c s))
theorem e32_62 {v1 : Value} : mr32 S P 62 L (v1 :: st) sh M c s = (mv_ss st ≤ 8 ∧ c ≤ 0 ∧ s ≤ 0 ∧ mv_isO sh (some v1) 2 ∧ mv_kal S 27 [v1] sh M (mr32 S P) 65 L st c s) := (propext (mv_R_iff (i := .invokevirtual 57) (len := 3) (ax := [0, 27, 1, 2, 0, 0, 0, 444, 446, 7, 110, 447]) (by decide +kernel))).trans (q_call0)
theorem e32_65 {x : Int32} : mr32 S P 65 L (.int x :: st) sh M c s = (q_hs L 5 ∧ mr32 S P 67 (L.set 5 (some (.int x))) st sh M c s) := (propext (mv_R_iff (i := .istore 5) (len := 2) (ax := []) (by decide +kernel))).trans (q_st_eq (K := fun L => mr32 S P 67 L st sh M c s))
theorem e32_67 : mr32 S P 67 L st sh M c s = (q_isI (q_gv L 5) ∧ mr32 S P 69 L (q_gv L 5 :: st) sh M c s) := (propext (mv_R_iff (i := .iload 5) (len := 2) (ax := []) (by decide +kernel))).trans (q_ldI_eq (K := fun st => mr32 S P 69 L st sh M c s))
theorem e32_69 {x : Int32} : mr32 S P 69 L (.int x :: st) sh M c s = (if nI 0 ≤ x then mr32 S P 74 L st sh M c s else mr32 S P 72 L st sh M c s) := (propext (mv_R_iff (i := .ifCond .ge 5) (len := 3) (ax := [74]) (by decide +kernel))).trans (q_br)
theorem e32_72 : mr32 S P 72 L st sh M c s = (mr32 S P 73 L (.int (nI 0) :: st) sh M c s) := propext (mv_R_iff (i := .iconst 0) (len := 1) (ax := []) (by decide +kernel))
theorem e32_73 {x : Int32} : mr32 S P 73 L [.int x] sh M c s = (mv_nr 1 x ∧ P (some (.int x)) sh M) := propext (mv_R_iff (i := .ireturn) (len := 1) (ax := [1]) (by decide +kernel))
theorem e32_74 : mr32 S P 74 L st sh M c s = (q_isI (q_gv L 3) ∧ mr32 S P 75 L (q_gv L 3 :: st) sh M c s) := (propext (mv_R_iff (i := .iload_n 3) (len := 1) (ax := []) (by decide +kernel))).trans (q_ldI_eq (K := fun st => mr32 S P 75 L st sh M c s))
theorem e32_75 : mr32 S P 75 L st sh M c s = (mr32 S P 77 L (.int (nI 10) :: st) sh M c s) := propext (mv_R_iff (i := .bipush 10) (len := 2) (ax := []) (by decide +kernel))
theorem e32_77 {y : Int32} {x : Int32} : mr32 S P 77 L (.int y :: .int x :: st) sh M c s = (mr32 S P 78 L (.int (x * y) :: st) sh M c s) := propext (mv_R_iff (i := .imul) (len := 1) (ax := []) (by decide +kernel))
theorem e32_78 : mr32 S P 78 L st sh M c s = (q_isI (q_gv L 5) ∧ mr32 S P 80 L (q_gv L 5 :: st) sh M c s) := (propext (mv_R_iff (i := .iload 5) (len := 2) (ax := []) (by decide +kernel))).trans (q_ldI_eq (K := fun st => mr32 S P 80 L st sh M c s))
theorem e32_80 {y : Int32} {x : Int32} : mr32 S P 80 L (.int y :: .int x :: st) sh M c s = (mr32 S P 81 L (.int (x + y) :: st) sh M c s) := propext (mv_R_iff (i := .iadd) (len := 1) (ax := []) (by decide +kernel))
theorem e32_81 {x : Int32} : mr32 S P 81 L (.int x :: st) sh M c s = (q_hs L 3 ∧ mr32 S P 82 (L.set 3 (some (.int x))) st sh M c s) := (propext (mv_R_iff (i := .istore_n 3) (len := 1) (ax := []) (by decide +kernel))).trans (q_st_eq (K := fun L => mr32 S P 82 L st sh M c s))
theorem e32_82 : mr32 S P 82 L st sh M c s = ((q_isI (q_gv L 4) ∧ q_hs L 4) ∧ mr32 S P 85 (L.set 4 (some (q_inc (q_gv L 4) (nI 1)))) st sh M c s) := (propext (mv_R_iff (i := .iinc 4 1) (len := 3) (ax := []) (by decide +kernel))).trans (q_inc_eq (K := fun L => mr32 S P 85 L st sh M c s))
theorem e32_85 : mr32 S P 85 L st sh M c s = (mr32 S P 55 L st sh M c s) := propext (mv_R_iff (i := .goto (-30)) (len := 3) (ax := [55]) (by decide +kernel))
theorem e32_88 : mr32 S P 88 L st sh M c s = (q_isA (q_gv L 0) ∧ mr32 S P 89 L (q_gv L 0 :: st) sh M c s) := (propext (mv_R_iff (i := .aload_n 0) (len := 1) (ax := []) (by decide +kernel))).trans (q_ldA_eq (K := fun st => mr32 S P 89 L st sh M c s))
theorem e32_89 {v1 : Value} : mr32 S P 89 L (v1 :: st) sh M c s = (mv_ss st ≤ 8 ∧ c ≤ 0 ∧ s ≤ 0 ∧ mv_isO sh (some v1) 2 ∧ mv_kal S 26 [v1] sh M (mr32 S P) 92 L st c s) := (propext (mv_R_iff (i := .invokevirtual 39) (len := 3) (ax := [0, 26, 1, 2, 0, 0, 0, 411, 413, 3, 110, 414]) (by decide +kernel))).trans (q_call0)
theorem e32_92 : mr32 S P 92 L st sh M c s = (mr32 S P 94 L (.int (nI 59) :: st) sh M c s) := propext (mv_R_iff (i := .bipush 59) (len := 2) (ax := []) (by decide +kernel))
theorem e32_94 {y : Int32} {x : Int32} : mr32 S P 94 L (.int y :: .int x :: st) sh M c s = (if x = y then mr32 S P 97 L st sh M c s else mr32 S P 114 L st sh M c s) := (propext (mv_R_iff (i := .if_icmp .ne 20) (len := 3) (ax := [114]) (by decide +kernel))).trans (q_br')
theorem e32_97 : mr32 S P 97 L st sh M c s = (q_isA (q_gv L 0) ∧ mr32 S P 98 L (q_gv L 0 :: st) sh M c s) := (propext (mv_R_iff (i := .aload_n 0) (len := 1) (ax := []) (by decide +kernel))).trans (q_ldA_eq (K := fun st => mr32 S P 98 L st sh M c s))
theorem e32_98 {a : Nat} : mr32 S P 98 L (.ref a :: st) sh M c s = (mv_kgf sh M a 2 1 (mr32 S P) 101 L st c s) := propext (mv_R_iff (i := .getfield 12) (len := 3) (ax := [220, 0, 2, 1]) (by decide +kernel))
theorem e32_101 : mr32 S P 101 L st sh M c s = (q_isI (q_gv L 1) ∧ mr32 S P 102 L (q_gv L 1 :: st) sh M c s) := (propext (mv_R_iff (i := .iload_n 1) (len := 1) (ax := []) (by decide +kernel))).trans (q_ldI_eq (K := fun st => mr32 S P 102 L st sh M c s))
theorem e32_102 : mr32 S P 102 L st sh M c s = (q_isI (q_gv L 2) ∧ mr32 S P 103 L (q_gv L 2 :: st) sh M c s) := (propext (mv_R_iff (i := .iload_n 2) (len := 1) (ax := []) (by decide +kernel))).trans (q_ldI_eq (K := fun st => mr32 S P 103 L st sh M c s))
theorem e32_103 : mr32 S P 103 L st sh M c s = (q_isI (q_gv L 3) ∧ mr32 S P 104 L (q_gv L 3 :: st) sh M c s) := (propext (mv_R_iff (i := .iload_n 3) (len := 1) (ax := []) (by decide +kernel))).trans (q_ldI_eq (K := fun st => mr32 S P 104 L st sh M c s))
theorem e32_104 {v4 : Value} {v3 : Value} {v2 : Value} {v1 : Value} : mr32 S P 104 L (v4 :: v3 :: v2 :: v1 :: st) sh M c s = (mv_ss st ≤ 8 ∧ c ≤ 0 ∧ s ≤ 0 ∧ mv_isO sh (some v1) 1 ∧ mv_kal S 31 [v1, v2, v3, v4] sh M (mr32 S P) 107 L st c s) := (propext (mv_R_iff (i := .invokevirtual 60) (len := 3) (ax := [1, 31, 4, 1, 0, 0, 448, 450, 8, 109, 451]) (by decide +kernel))).trans (q_call1)
theorem e32_107 {x : Int32} : mr32 S P 107 L (.int x :: st) sh M c s = (if x = nI 0 then mr32 S P 114 L st sh M c s else mr32 S P 110 L st sh M c s) := (propext (mv_R_iff (i := .ifCond .eq 7) (len := 3) (ax := [114]) (by decide +kernel))).trans (q_br)
theorem e32_110 : mr32 S P 110 L st sh M c s = (mr32 S P 111 L (.int (nI 1) :: st) sh M c s) := propext (mv_R_iff (i := .iconst 1) (len := 1) (ax := []) (by decide +kernel))
theorem e32_111 : mr32 S P 111 L st sh M c s = (mr32 S P 115 L st sh M c s) := propext (mv_R_iff (i := .goto 4) (len := 3) (ax := [115]) (by decide +kernel))
theorem e32_114 : mr32 S P 114 L st sh M c s = (mr32 S P 115 L (.int (nI 0) :: st) sh M c s) := propext (mv_R_iff (i := .iconst 0) (len := 1) (ax := []) (by decide +kernel))
theorem e32_115 {x : Int32} : mr32 S P 115 L [.int x] sh M c s = (mv_nr 1 x ∧ P (some (.int x)) sh M) := propext (mv_R_iff (i := .ireturn) (len := 1) (ax := [1]) (by decide +kernel))
-- 34: Reader.readPack()Z
def mk34 : mv_Cd := [
  (0, .iconst 0, 1, []),
  (1, .istore_n 1, 1, []),
  (2, .iconst 0, 1, []),
  (3, .istore_n 2, 1, []),
  (4, .iload_n 2, 1, []),
  (5, .bipush 6, 2, []),
  (7, .if_icmp .ge 55, 3, [62]),
  (10, .aload_n 0, 1, []),
  (11, .invokevirtual 64, 3, [0, 25, 1, 2, 0, 0, 0, 415, 417, 4, 110, 418]),
  (14, .bipush 59, 2, []),
  (16, .if_icmp .eq 46, 3, [62]),
  (19, .aload_n 0, 1, []),
  (20, .invokevirtual 57, 3, [0, 27, 1, 2, 0, 0, 0, 444, 446, 7, 110, 447]),
  (23, .istore_n 3, 1, []),
  (24, .iload_n 3, 1, []),
  (25, .ifCond .lt 23, 3, [48]),
  (28, .iload_n 3, 1, []),
  (29, .aload_n 0, 1, []),
  (30, .getfield 12, 3, [220, 0, 2, 1]),
  (33, .getfield 67, 3, [169, 1, 1, 0]),
  (36, .if_icmp .ge 12, 3, [48]),
  (39, .iload_n 1, 1, []),
  (40, .iload_n 3, 1, []),
  (41, .ishr, 1, []),
  (42, .iconst 1, 1, []),
  (43, .iand, 1, []),
  (44, .iconst 1, 1, []),
  (45, .if_icmp .ne 5, 3, [50]),
  (48, .iconst 0, 1, []),
  (49, .ireturn, 1, [1]),
  (50, .iload_n 1, 1, []),
  (51, .iconst 1, 1, []),
  (52, .iload_n 3, 1, []),
  (53, .ishl, 1, []),
  (54, .ior, 1, []),
  (55, .istore_n 1, 1, []),
  (56, .iinc 2 1, 3, []),
  (59, .goto (-55), 3, [4]),
  (62, .iload_n 1, 1, []),
  (63, .ifCond .eq 27, 3, [90]),
  (66, .aload_n 0, 1, []),
  (67, .invokevirtual 39, 3, [0, 26, 1, 2, 0, 0, 0, 411, 413, 3, 110, 414]),
  (70, .bipush 59, 2, []),
  (72, .if_icmp .ne 18, 3, [90]),
  (75, .aload_n 0, 1, []),
  (76, .getfield 12, 3, [220, 0, 2, 1]),
  (79, .iload_n 1, 1, []),
  (80, .invokevirtual 70, 3, [1, 33, 2, 1, 0, 0, 464, 466, 12, 109, 467]),
  (83, .ifCond .eq 7, 3, [90]),
  (86, .iconst 1, 1, []),
  (87, .goto 4, 3, [91]),
  (90, .iconst 0, 1, []),
  (91, .ireturn, 1, [1])]
def mr34 (S : Nat → mv_Sp) (P : mv_Post) : mv_Kt := mv_R mv_DF mk34 S (0, 0) P
theorem e34_0 : mr34 S P 0 L st sh M c s = (mr34 S P 1 L (.int (nI 0) :: st) sh M c s) := propext (mv_R_iff (i := .iconst 0) (len := 1) (ax := []) (by decide +kernel))
theorem e34_1 {x : Int32} : mr34 S P 1 L (.int x :: st) sh M c s = (q_hs L 1 ∧ mr34 S P 2 (L.set 1 (some (.int x))) st sh M c s) := (propext (mv_R_iff (i := .istore_n 1) (len := 1) (ax := []) (by decide +kernel))).trans (q_st_eq (K := fun L => mr34 S P 2 L st sh M c s))
theorem e34_2 : mr34 S P 2 L st sh M c s = (mr34 S P 3 L (.int (nI 0) :: st) sh M c s) := propext (mv_R_iff (i := .iconst 0) (len := 1) (ax := []) (by decide +kernel))
theorem e34_3 {x : Int32} : mr34 S P 3 L (.int x :: st) sh M c s = (q_hs L 2 ∧ mr34 S P 4 (L.set 2 (some (.int x))) st sh M c s) := (propext (mv_R_iff (i := .istore_n 2) (len := 1) (ax := []) (by decide +kernel))).trans (q_st_eq (K := fun L => mr34 S P 4 L st sh M c s))
theorem e34_4 : mr34 S P 4 L st sh M c s = (q_isI (q_gv L 2) ∧ mr34 S P 5 L (q_gv L 2 :: st) sh M c s) := (propext (mv_R_iff (i := .iload_n 2) (len := 1) (ax := []) (by decide +kernel))).trans (q_ldI_eq (K := fun st => mr34 S P 5 L st sh M c s))
theorem e34_5 : mr34 S P 5 L st sh M c s = (mr34 S P 7 L (.int (nI 6) :: st) sh M c s) := propext (mv_R_iff (i := .bipush 6) (len := 2) (ax := []) (by decide +kernel))
theorem e34_7 {y : Int32} {x : Int32} : mr34 S P 7 L (.int y :: .int x :: st) sh M c s = (if y ≤ x then mr34 S P 62 L st sh M c s else mr34 S P 10 L st sh M c s) := (propext (mv_R_iff (i := .if_icmp .ge 55) (len := 3) (ax := [62]) (by decide +kernel))).trans (q_br)
theorem e34_10 : mr34 S P 10 L st sh M c s = (q_isA (q_gv L 0) ∧ mr34 S P 11 L (q_gv L 0 :: st) sh M c s) := (propext (mv_R_iff (i := .aload_n 0) (len := 1) (ax := []) (by decide +kernel))).trans (q_ldA_eq (K := fun st => mr34 S P 11 L st sh M c s))
theorem e34_11 {v1 : Value} : mr34 S P 11 L (v1 :: st) sh M c s = (mv_ss st ≤ 8 ∧ c ≤ 0 ∧ s ≤ 0 ∧ mv_isO sh (some v1) 2 ∧ mv_kal S 25 [v1] sh M (mr34 S P) 14 L st c s) := (propext (mv_R_iff (i := .invokevirtual 64) (len := 3) (ax := [0, 25, 1, 2, 0, 0, 0, 415, 417, 4, 110, 418]) (by decide +kernel))).trans (q_call0)
theorem e34_14 : mr34 S P 14 L st sh M c s = (mr34 S P 16 L (.int (nI 59) :: st) sh M c s) := propext (mv_R_iff (i := .bipush 59) (len := 2) (ax := []) (by decide +kernel))
theorem e34_16 {y : Int32} {x : Int32} : mr34 S P 16 L (.int y :: .int x :: st) sh M c s = (if x = y then mr34 S P 62 L st sh M c s else mr34 S P 19 L st sh M c s) := (propext (mv_R_iff (i := .if_icmp .eq 46) (len := 3) (ax := [62]) (by decide +kernel))).trans (q_br)
theorem e34_19 : mr34 S P 19 L st sh M c s = (q_isA (q_gv L 0) ∧ mr34 S P 20 L (q_gv L 0 :: st) sh M c s) := (propext (mv_R_iff (i := .aload_n 0) (len := 1) (ax := []) (by decide +kernel))).trans (q_ldA_eq (K := fun st => mr34 S P 20 L st sh M c s))
theorem e34_20 {v1 : Value} : mr34 S P 20 L (v1 :: st) sh M c s = (mv_ss st ≤ 8 ∧ c ≤ 0 ∧ s ≤ 0 ∧ mv_isO sh (some v1) 2 ∧ mv_kal S 27 [v1] sh M (mr34 S P) 23 L st c s) := (propext (mv_R_iff (i := .invokevirtual 57) (len := 3) (ax := [0, 27, 1, 2, 0, 0, 0, 444, 446, 7, 110, 447]) (by decide +kernel))).trans (q_call0)
theorem e34_23 {x : Int32} : mr34 S P 23 L (.int x :: st) sh M c s = (q_hs L 3 ∧ mr34 S P 24 (L.set 3 (some (.int x))) st sh M c s) := (propext (mv_R_iff (i := .istore_n 3) (len := 1) (ax := []) (by decide +kernel))).trans (q_st_eq (K := fun L => mr34 S P 24 L st sh M c s))
theorem e34_24 : mr34 S P 24 L st sh M c s = (q_isI (q_gv L 3) ∧ mr34 S P 25 L (q_gv L 3 :: st) sh M c s) := (propext (mv_R_iff (i := .iload_n 3) (len := 1) (ax := []) (by decide +kernel))).trans (q_ldI_eq (K := fun st => mr34 S P 25 L st sh M c s))
theorem e34_25 {x : Int32} : mr34 S P 25 L (.int x :: st) sh M c s = (if x < nI 0 then mr34 S P 48 L st sh M c s else mr34 S P 28 L st sh M c s) := (propext (mv_R_iff (i := .ifCond .lt 23) (len := 3) (ax := [48]) (by decide +kernel))).trans (q_br)
theorem e34_28 : mr34 S P 28 L st sh M c s = (q_isI (q_gv L 3) ∧ mr34 S P 29 L (q_gv L 3 :: st) sh M c s) := (propext (mv_R_iff (i := .iload_n 3) (len := 1) (ax := []) (by decide +kernel))).trans (q_ldI_eq (K := fun st => mr34 S P 29 L st sh M c s))
theorem e34_29 : mr34 S P 29 L st sh M c s = (q_isA (q_gv L 0) ∧ mr34 S P 30 L (q_gv L 0 :: st) sh M c s) := (propext (mv_R_iff (i := .aload_n 0) (len := 1) (ax := []) (by decide +kernel))).trans (q_ldA_eq (K := fun st => mr34 S P 30 L st sh M c s))
theorem e34_30 {a : Nat} : mr34 S P 30 L (.ref a :: st) sh M c s = (mv_kgf sh M a 2 1 (mr34 S P) 33 L st c s) := propext (mv_R_iff (i := .getfield 12) (len := 3) (ax := [220, 0, 2, 1]) (by decide +kernel))
theorem e34_33 {a : Nat} : mr34 S P 33 L (.ref a :: st) sh M c s = (mv_kgf sh M a 1 0 (mr34 S P) 36 L st c s) := propext (mv_R_iff (i := .getfield 67) (len := 3) (ax := [169, 1, 1, 0]) (by decide +kernel))
theorem e34_36 {y : Int32} {x : Int32} : mr34 S P 36 L (.int y :: .int x :: st) sh M c s = (if y ≤ x then mr34 S P 48 L st sh M c s else mr34 S P 39 L st sh M c s) := (propext (mv_R_iff (i := .if_icmp .ge 12) (len := 3) (ax := [48]) (by decide +kernel))).trans (q_br)
theorem e34_39 : mr34 S P 39 L st sh M c s = (q_isI (q_gv L 1) ∧ mr34 S P 40 L (q_gv L 1 :: st) sh M c s) := (propext (mv_R_iff (i := .iload_n 1) (len := 1) (ax := []) (by decide +kernel))).trans (q_ldI_eq (K := fun st => mr34 S P 40 L st sh M c s))
theorem e34_40 : mr34 S P 40 L st sh M c s = (q_isI (q_gv L 3) ∧ mr34 S P 41 L (q_gv L 3 :: st) sh M c s) := (propext (mv_R_iff (i := .iload_n 3) (len := 1) (ax := []) (by decide +kernel))).trans (q_ldI_eq (K := fun st => mr34 S P 41 L st sh M c s))
theorem e34_41 {y : Int32} {x : Int32} : mr34 S P 41 L (.int y :: .int x :: st) sh M c s = (mr34 S P 42 L (.int (x >>> (y &&& 31)) :: st) sh M c s) := propext (mv_R_iff (i := .ishr) (len := 1) (ax := []) (by decide +kernel))
theorem e34_42 : mr34 S P 42 L st sh M c s = (mr34 S P 43 L (.int (nI 1) :: st) sh M c s) := propext (mv_R_iff (i := .iconst 1) (len := 1) (ax := []) (by decide +kernel))
theorem e34_43 {y : Int32} {x : Int32} : mr34 S P 43 L (.int y :: .int x :: st) sh M c s = (mr34 S P 44 L (.int (x &&& y) :: st) sh M c s) := propext (mv_R_iff (i := .iand) (len := 1) (ax := []) (by decide +kernel))
theorem e34_44 : mr34 S P 44 L st sh M c s = (mr34 S P 45 L (.int (nI 1) :: st) sh M c s) := propext (mv_R_iff (i := .iconst 1) (len := 1) (ax := []) (by decide +kernel))
theorem e34_45 {y : Int32} {x : Int32} : mr34 S P 45 L (.int y :: .int x :: st) sh M c s = (if x = y then mr34 S P 48 L st sh M c s else mr34 S P 50 L st sh M c s) := (propext (mv_R_iff (i := .if_icmp .ne 5) (len := 3) (ax := [50]) (by decide +kernel))).trans (q_br')
theorem e34_48 : mr34 S P 48 L st sh M c s = (mr34 S P 49 L (.int (nI 0) :: st) sh M c s) := propext (mv_R_iff (i := .iconst 0) (len := 1) (ax := []) (by decide +kernel))
theorem e34_49 {x : Int32} : mr34 S P 49 L [.int x] sh M c s = (mv_nr 1 x ∧ P (some (.int x)) sh M) := propext (mv_R_iff (i := .ireturn) (len := 1) (ax := [1]) (by decide +kernel))
theorem e34_50 : mr34 S P 50 L st sh M c s = (q_isI (q_gv L 1) ∧ mr34 S P 51 L (q_gv L 1 :: st) sh M c s) := (propext (mv_R_iff (i := .iload_n 1) (len := 1) (ax := []) (by decide +kernel))).trans (q_ldI_eq (K := fun st => mr34 S P 51 L st sh M c s))
theorem e34_51 : mr34 S P 51 L st sh M c s = (mr34 S P 52 L (.int (nI 1) :: st) sh M c s) := propext (mv_R_iff (i := .iconst 1) (len := 1) (ax := []) (by decide +kernel))
theorem e34_52 : mr34 S P 52 L st sh M c s = (q_isI (q_gv L 3) ∧ mr34 S P 53 L (q_gv L 3 :: st) sh M c s) := (propext (mv_R_iff (i := .iload_n 3) (len := 1) (ax := []) (by decide +kernel))).trans (q_ldI_eq (K := fun st => mr34 S P 53 L st sh M c s))
theorem e34_53 {y : Int32} {x : Int32} : mr34 S P 53 L (.int y :: .int x :: st) sh M c s = (mr34 S P 54 L (.int (x <<< (y &&& 31)) :: st) sh M c s) := propext (mv_R_iff (i := .ishl) (len := 1) (ax := []) (by decide +kernel))
theorem e34_54 {y : Int32} {x : Int32} : mr34 S P 54 L (.int y :: .int x :: st) sh M c s = (mr34 S P 55 L (.int (x ||| y) :: st) sh M c s) := propext (mv_R_iff (i := .ior) (len := 1) (ax := []) (by decide +kernel))
theorem e34_55 {x : Int32} : mr34 S P 55 L (.int x :: st) sh M c s = (q_hs L 1 ∧ mr34 S P 56 (L.set 1 (some (.int x))) st sh M c s) := (propext (mv_R_iff (i := .istore_n 1) (len := 1) (ax := []) (by decide +kernel))).trans (q_st_eq (K := fun L => mr34 S P 56 L st sh M c s))
theorem e34_56 : mr34 S P 56 L st sh M c s = ((q_isI (q_gv L 2) ∧ q_hs L 2) ∧ mr34 S P 59 (L.set 2 (some (q_inc (q_gv L 2) (nI 1)))) st sh M c s) := (propext (mv_R_iff (i := .iinc 2 1) (len := 3) (ax := []) (by decide +kernel))).trans (q_inc_eq (K := fun L => mr34 S P 59 L st sh M c s))
theorem e34_59 : mr34 S P 59 L st sh M c s = (mr34 S P 4 L st sh M c s) := propext (mv_R_iff (i := .goto (-55)) (len := 3) (ax := [4]) (by decide +kernel))
theorem e34_62 : mr34 S P 62 L st sh M c s = (q_isI (q_gv L 1) ∧ mr34 S P 63 L (q_gv L 1 :: st) sh M c s) := (propext (mv_R_iff (i := .iload_n 1) (len := 1) (ax := []) (by decide +kernel))).trans (q_ldI_eq (K := fun st => mr34 S P 63 L st sh M c s))
theorem e34_63 {x : Int32} : mr34 S P 63 L (.int x :: st) sh M c s = (if x = nI 0 then mr34 S P 90 L st sh M c s else mr34 S P 66 L st sh M c s) := (propext (mv_R_iff (i := .ifCond .eq 27) (len := 3) (ax := [90]) (by decide +kernel))).trans (q_br)
theorem e34_66 : mr34 S P 66 L st sh M c s = (q_isA (q_gv L 0) ∧ mr34 S P 67 L (q_gv L 0 :: st) sh M c s) := (propext (mv_R_iff (i := .aload_n 0) (len := 1) (ax := []) (by decide +kernel))).trans (q_ldA_eq (K := fun st => mr34 S P 67 L st sh M c s))
theorem e34_67 {v1 : Value} : mr34 S P 67 L (v1 :: st) sh M c s = (mv_ss st ≤ 8 ∧ c ≤ 0 ∧ s ≤ 0 ∧ mv_isO sh (some v1) 2 ∧ mv_kal S 26 [v1] sh M (mr34 S P) 70 L st c s) := (propext (mv_R_iff (i := .invokevirtual 39) (len := 3) (ax := [0, 26, 1, 2, 0, 0, 0, 411, 413, 3, 110, 414]) (by decide +kernel))).trans (q_call0)
theorem e34_70 : mr34 S P 70 L st sh M c s = (mr34 S P 72 L (.int (nI 59) :: st) sh M c s) := propext (mv_R_iff (i := .bipush 59) (len := 2) (ax := []) (by decide +kernel))
theorem e34_72 {y : Int32} {x : Int32} : mr34 S P 72 L (.int y :: .int x :: st) sh M c s = (if x = y then mr34 S P 75 L st sh M c s else mr34 S P 90 L st sh M c s) := (propext (mv_R_iff (i := .if_icmp .ne 18) (len := 3) (ax := [90]) (by decide +kernel))).trans (q_br')
theorem e34_75 : mr34 S P 75 L st sh M c s = (q_isA (q_gv L 0) ∧ mr34 S P 76 L (q_gv L 0 :: st) sh M c s) := (propext (mv_R_iff (i := .aload_n 0) (len := 1) (ax := []) (by decide +kernel))).trans (q_ldA_eq (K := fun st => mr34 S P 76 L st sh M c s))
theorem e34_76 {a : Nat} : mr34 S P 76 L (.ref a :: st) sh M c s = (mv_kgf sh M a 2 1 (mr34 S P) 79 L st c s) := propext (mv_R_iff (i := .getfield 12) (len := 3) (ax := [220, 0, 2, 1]) (by decide +kernel))
theorem e34_79 : mr34 S P 79 L st sh M c s = (q_isI (q_gv L 1) ∧ mr34 S P 80 L (q_gv L 1 :: st) sh M c s) := (propext (mv_R_iff (i := .iload_n 1) (len := 1) (ax := []) (by decide +kernel))).trans (q_ldI_eq (K := fun st => mr34 S P 80 L st sh M c s))
theorem e34_80 {v2 : Value} {v1 : Value} : mr34 S P 80 L (v2 :: v1 :: st) sh M c s = (mv_ss st ≤ 8 ∧ c ≤ 0 ∧ s ≤ 0 ∧ mv_isO sh (some v1) 1 ∧ mv_kal S 33 [v1, v2] sh M (mr34 S P) 83 L st c s) := (propext (mv_R_iff (i := .invokevirtual 70) (len := 3) (ax := [1, 33, 2, 1, 0, 0, 464, 466, 12, 109, 467]) (by decide +kernel))).trans (q_call1)
theorem e34_83 {x : Int32} : mr34 S P 83 L (.int x :: st) sh M c s = (if x = nI 0 then mr34 S P 90 L st sh M c s else mr34 S P 86 L st sh M c s) := (propext (mv_R_iff (i := .ifCond .eq 7) (len := 3) (ax := [90]) (by decide +kernel))).trans (q_br)
theorem e34_86 : mr34 S P 86 L st sh M c s = (mr34 S P 87 L (.int (nI 1) :: st) sh M c s) := propext (mv_R_iff (i := .iconst 1) (len := 1) (ax := []) (by decide +kernel))
theorem e34_87 : mr34 S P 87 L st sh M c s = (mr34 S P 91 L st sh M c s) := propext (mv_R_iff (i := .goto 4) (len := 3) (ax := [91]) (by decide +kernel))
theorem e34_90 : mr34 S P 90 L st sh M c s = (mr34 S P 91 L (.int (nI 0) :: st) sh M c s) := propext (mv_R_iff (i := .iconst 0) (len := 1) (ax := []) (by decide +kernel))
theorem e34_91 {x : Int32} : mr34 S P 91 L [.int x] sh M c s = (mv_nr 1 x ∧ P (some (.int x)) sh M) := propext (mv_R_iff (i := .ireturn) (len := 1) (ax := [1]) (by decide +kernel))
-- 35: Reader.readLimit()Z
def mk35 : mv_Cd := [
  (0, .aload_n 0, 1, []),
  (1, .invokevirtual 54, 3, [0, 28, 1, 2, 0, 0, 0, 440, 442, 6, 110, 443]),
  (4, .istore_n 1, 1, []),
  (5, .iload_n 1, 1, []),
  (6, .iconst 1, 1, []),
  (7, .if_icmp .lt 18, 3, [25]),
  (10, .iload_n 1, 1, []),
  (11, .bipush 40, 2, []),
  (13, .if_icmp .gt 12, 3, [25]),
  (16, .aload_n 0, 1, []),
  (17, .invokevirtual 39, 3, [0, 26, 1, 2, 0, 0, 0, 411, 413, 3, 110, 414]),
  (20, .bipush 59, 2, []),
  (22, .if_icmp .eq 5, 3, [27]),
  (25, .iconst 0, 1, []),
  (26, .ireturn, 1, [1]),
  (27, .aload_n 0, 1, []),
  (28, .getfield 12, 3, [220, 0, 2, 1]),
  (31, .iload_n 1, 1, []),
  (32, .putfield 74, 3, [180, 1, 1, 3, 0]),
  (35, .iconst 1, 1, []),
  (36, .ireturn, 1, [1])]
def mr35 (S : Nat → mv_Sp) (P : mv_Post) : mv_Kt := mv_R mv_DF mk35 S (0, 0) P
theorem e35_0 : mr35 S P 0 L st sh M c s = (q_isA (q_gv L 0) ∧ mr35 S P 1 L (q_gv L 0 :: st) sh M c s) := (propext (mv_R_iff (i := .aload_n 0) (len := 1) (ax := []) (by decide +kernel))).trans (q_ldA_eq (K := fun st => mr35 S P 1 L st sh M c s))
theorem e35_1 {v1 : Value} : mr35 S P 1 L (v1 :: st) sh M c s = (mv_ss st ≤ 8 ∧ c ≤ 0 ∧ s ≤ 0 ∧ mv_isO sh (some v1) 2 ∧ mv_kal S 28 [v1] sh M (mr35 S P) 4 L st c s) := (propext (mv_R_iff (i := .invokevirtual 54) (len := 3) (ax := [0, 28, 1, 2, 0, 0, 0, 440, 442, 6, 110, 443]) (by decide +kernel))).trans (q_call0)
theorem e35_4 {x : Int32} : mr35 S P 4 L (.int x :: st) sh M c s = (q_hs L 1 ∧ mr35 S P 5 (L.set 1 (some (.int x))) st sh M c s) := (propext (mv_R_iff (i := .istore_n 1) (len := 1) (ax := []) (by decide +kernel))).trans (q_st_eq (K := fun L => mr35 S P 5 L st sh M c s))
theorem e35_5 : mr35 S P 5 L st sh M c s = (q_isI (q_gv L 1) ∧ mr35 S P 6 L (q_gv L 1 :: st) sh M c s) := (propext (mv_R_iff (i := .iload_n 1) (len := 1) (ax := []) (by decide +kernel))).trans (q_ldI_eq (K := fun st => mr35 S P 6 L st sh M c s))
theorem e35_6 : mr35 S P 6 L st sh M c s = (mr35 S P 7 L (.int (nI 1) :: st) sh M c s) := propext (mv_R_iff (i := .iconst 1) (len := 1) (ax := []) (by decide +kernel))
theorem e35_7 {y : Int32} {x : Int32} : mr35 S P 7 L (.int y :: .int x :: st) sh M c s = (if x < y then mr35 S P 25 L st sh M c s else mr35 S P 10 L st sh M c s) := (propext (mv_R_iff (i := .if_icmp .lt 18) (len := 3) (ax := [25]) (by decide +kernel))).trans (q_br)
theorem e35_10 : mr35 S P 10 L st sh M c s = (q_isI (q_gv L 1) ∧ mr35 S P 11 L (q_gv L 1 :: st) sh M c s) := (propext (mv_R_iff (i := .iload_n 1) (len := 1) (ax := []) (by decide +kernel))).trans (q_ldI_eq (K := fun st => mr35 S P 11 L st sh M c s))
theorem e35_11 : mr35 S P 11 L st sh M c s = (mr35 S P 13 L (.int (nI 40) :: st) sh M c s) := propext (mv_R_iff (i := .bipush 40) (len := 2) (ax := []) (by decide +kernel))
theorem e35_13 {y : Int32} {x : Int32} : mr35 S P 13 L (.int y :: .int x :: st) sh M c s = (if y < x then mr35 S P 25 L st sh M c s else mr35 S P 16 L st sh M c s) := (propext (mv_R_iff (i := .if_icmp .gt 12) (len := 3) (ax := [25]) (by decide +kernel))).trans (q_br)
theorem e35_16 : mr35 S P 16 L st sh M c s = (q_isA (q_gv L 0) ∧ mr35 S P 17 L (q_gv L 0 :: st) sh M c s) := (propext (mv_R_iff (i := .aload_n 0) (len := 1) (ax := []) (by decide +kernel))).trans (q_ldA_eq (K := fun st => mr35 S P 17 L st sh M c s))
theorem e35_17 {v1 : Value} : mr35 S P 17 L (v1 :: st) sh M c s = (mv_ss st ≤ 8 ∧ c ≤ 0 ∧ s ≤ 0 ∧ mv_isO sh (some v1) 2 ∧ mv_kal S 26 [v1] sh M (mr35 S P) 20 L st c s) := (propext (mv_R_iff (i := .invokevirtual 39) (len := 3) (ax := [0, 26, 1, 2, 0, 0, 0, 411, 413, 3, 110, 414]) (by decide +kernel))).trans (q_call0)
theorem e35_20 : mr35 S P 20 L st sh M c s = (mr35 S P 22 L (.int (nI 59) :: st) sh M c s) := propext (mv_R_iff (i := .bipush 59) (len := 2) (ax := []) (by decide +kernel))
theorem e35_22 {y : Int32} {x : Int32} : mr35 S P 22 L (.int y :: .int x :: st) sh M c s = (if x = y then mr35 S P 27 L st sh M c s else mr35 S P 25 L st sh M c s) := (propext (mv_R_iff (i := .if_icmp .eq 5) (len := 3) (ax := [27]) (by decide +kernel))).trans (q_br)
theorem e35_25 : mr35 S P 25 L st sh M c s = (mr35 S P 26 L (.int (nI 0) :: st) sh M c s) := propext (mv_R_iff (i := .iconst 0) (len := 1) (ax := []) (by decide +kernel))
theorem e35_26 {x : Int32} : mr35 S P 26 L [.int x] sh M c s = (mv_nr 1 x ∧ P (some (.int x)) sh M) := propext (mv_R_iff (i := .ireturn) (len := 1) (ax := [1]) (by decide +kernel))
theorem e35_27 : mr35 S P 27 L st sh M c s = (q_isA (q_gv L 0) ∧ mr35 S P 28 L (q_gv L 0 :: st) sh M c s) := (propext (mv_R_iff (i := .aload_n 0) (len := 1) (ax := []) (by decide +kernel))).trans (q_ldA_eq (K := fun st => mr35 S P 28 L st sh M c s))
theorem e35_28 {a : Nat} : mr35 S P 28 L (.ref a :: st) sh M c s = (mv_kgf sh M a 2 1 (mr35 S P) 31 L st c s) := propext (mv_R_iff (i := .getfield 12) (len := 3) (ax := [220, 0, 2, 1]) (by decide +kernel))
theorem e35_31 : mr35 S P 31 L st sh M c s = (q_isI (q_gv L 1) ∧ mr35 S P 32 L (q_gv L 1 :: st) sh M c s) := (propext (mv_R_iff (i := .iload_n 1) (len := 1) (ax := []) (by decide +kernel))).trans (q_ldI_eq (K := fun st => mr35 S P 32 L st sh M c s))
theorem e35_32 {x : Int32} {a : Nat} : mr35 S P 32 L (.int x :: .ref a :: st) sh M c s = (True ∧ mv_kpf sh M a 1 3 x (mr35 S P) 35 L st c s) := propext (mv_R_iff (i := .putfield 74) (len := 3) (ax := [180, 1, 1, 3, 0]) (by decide +kernel))
theorem e35_35 : mr35 S P 35 L st sh M c s = (mr35 S P 36 L (.int (nI 1) :: st) sh M c s) := propext (mv_R_iff (i := .iconst 1) (len := 1) (ax := []) (by decide +kernel))
theorem e35_36 {x : Int32} : mr35 S P 36 L [.int x] sh M c s = (mv_nr 1 x ∧ P (some (.int x)) sh M) := propext (mv_R_iff (i := .ireturn) (len := 1) (ax := [1]) (by decide +kernel))
-- 38: Reader.readDraft()Z
def mk38 : mv_Cd := [
  (0, .aload_n 0, 1, []),
  (1, .getfield 12, 3, [220, 0, 2, 1]),
  (4, .iconst 0, 1, []),
  (5, .putfield 77, 3, [177, 1, 1, 2, 0]),
  (8, .iconst 0, 1, []),
  (9, .istore_n 1, 1, []),
  (10, .iload_n 1, 1, []),
  (11, .bipush 8, 2, []),
  (13, .if_icmp .ge 64, 3, [77]),
  (16, .aload_n 0, 1, []),
  (17, .invokevirtual 64, 3, [0, 25, 1, 2, 0, 0, 0, 415, 417, 4, 110, 418]),
  (20, .bipush 59, 2, []),
  (22, .if_icmp .eq 55, 3, [77]),
  (25, .aload_n 0, 1, []),
  (26, .invokevirtual 57, 3, [0, 27, 1, 2, 0, 0, 0, 444, 446, 7, 110, 447]),
  (29, .istore_n 2, 1, []),
  (30, .aload_n 0, 1, []),
  (31, .invokevirtual 39, 3, [0, 26, 1, 2, 0, 0, 0, 411, 413, 3, 110, 414]),
  (34, .invokestatic 80, 3, [3, 36, 1, 0, 0, 0, 0, 476, 477, 110, 478]),
  (37, .istore_n 3, 1, []),
  (38, .iload_n 2, 1, []),
  (39, .ifCond .lt 30, 3, [69]),
  (42, .iload_n 2, 1, []),
  (43, .aload_n 0, 1, []),
  (44, .getfield 12, 3, [220, 0, 2, 1]),
  (47, .getfield 84, 3, [175, 1, 1, 1]),
  (50, .if_icmp .ge 19, 3, [69]),
  (53, .iload_n 3, 1, []),
  (54, .ifCond .lt 15, 3, [69]),
  (57, .aload_n 0, 1, []),
  (58, .getfield 12, 3, [220, 0, 2, 1]),
  (61, .iload_n 2, 1, []),
  (62, .iload_n 3, 1, []),
  (63, .invokevirtual 87, 3, [1, 37, 3, 1, 0, 0, 479, 481, 15, 109, 482]),
  (66, .ifCond .ne 5, 3, [71]),
  (69, .iconst 0, 1, []),
  (70, .ireturn, 1, [1]),
  (71, .iinc 1 1, 3, []),
  (74, .goto (-64), 3, [10]),
  (77, .aload_n 0, 1, []),
  (78, .getfield 12, 3, [220, 0, 2, 1]),
  (81, .getfield 77, 3, [177, 1, 1, 2]),
  (84, .ifCond .le 16, 3, [100]),
  (87, .aload_n 0, 1, []),
  (88, .invokevirtual 39, 3, [0, 26, 1, 2, 0, 0, 0, 411, 413, 3, 110, 414]),
  (91, .bipush 59, 2, []),
  (93, .if_icmp .ne 7, 3, [100]),
  (96, .iconst 1, 1, []),
  (97, .goto 4, 3, [101]),
  (100, .iconst 0, 1, []),
  (101, .ireturn, 1, [1])]
def mr38 (S : Nat → mv_Sp) (P : mv_Post) : mv_Kt := mv_R mv_DF mk38 S (0, 0) P
theorem e38_0 : mr38 S P 0 L st sh M c s = (q_isA (q_gv L 0) ∧ mr38 S P 1 L (q_gv L 0 :: st) sh M c s) := (propext (mv_R_iff (i := .aload_n 0) (len := 1) (ax := []) (by decide +kernel))).trans (q_ldA_eq (K := fun st => mr38 S P 1 L st sh M c s))
theorem e38_1 {a : Nat} : mr38 S P 1 L (.ref a :: st) sh M c s = (mv_kgf sh M a 2 1 (mr38 S P) 4 L st c s) := propext (mv_R_iff (i := .getfield 12) (len := 3) (ax := [220, 0, 2, 1]) (by decide +kernel))
theorem e38_4 : mr38 S P 4 L st sh M c s = (mr38 S P 5 L (.int (nI 0) :: st) sh M c s) := propext (mv_R_iff (i := .iconst 0) (len := 1) (ax := []) (by decide +kernel))
theorem e38_5 {x : Int32} {a : Nat} : mr38 S P 5 L (.int x :: .ref a :: st) sh M c s = (True ∧ mv_kpf sh M a 1 2 x (mr38 S P) 8 L st c s) := propext (mv_R_iff (i := .putfield 77) (len := 3) (ax := [177, 1, 1, 2, 0]) (by decide +kernel))
theorem e38_8 : mr38 S P 8 L st sh M c s = (mr38 S P 9 L (.int (nI 0) :: st) sh M c s) := propext (mv_R_iff (i := .iconst 0) (len := 1) (ax := []) (by decide +kernel))
theorem e38_9 {x : Int32} : mr38 S P 9 L (.int x :: st) sh M c s = (q_hs L 1 ∧ mr38 S P 10 (L.set 1 (some (.int x))) st sh M c s) := (propext (mv_R_iff (i := .istore_n 1) (len := 1) (ax := []) (by decide +kernel))).trans (q_st_eq (K := fun L => mr38 S P 10 L st sh M c s))
theorem e38_10 : mr38 S P 10 L st sh M c s = (q_isI (q_gv L 1) ∧ mr38 S P 11 L (q_gv L 1 :: st) sh M c s) := (propext (mv_R_iff (i := .iload_n 1) (len := 1) (ax := []) (by decide +kernel))).trans (q_ldI_eq (K := fun st => mr38 S P 11 L st sh M c s))
theorem e38_11 : mr38 S P 11 L st sh M c s = (mr38 S P 13 L (.int (nI 8) :: st) sh M c s) := propext (mv_R_iff (i := .bipush 8) (len := 2) (ax := []) (by decide +kernel))
theorem e38_13 {y : Int32} {x : Int32} : mr38 S P 13 L (.int y :: .int x :: st) sh M c s = (if y ≤ x then mr38 S P 77 L st sh M c s else mr38 S P 16 L st sh M c s) := (propext (mv_R_iff (i := .if_icmp .ge 64) (len := 3) (ax := [77]) (by decide +kernel))).trans (q_br)
theorem e38_16 : mr38 S P 16 L st sh M c s = (q_isA (q_gv L 0) ∧ mr38 S P 17 L (q_gv L 0 :: st) sh M c s) := (propext (mv_R_iff (i := .aload_n 0) (len := 1) (ax := []) (by decide +kernel))).trans (q_ldA_eq (K := fun st => mr38 S P 17 L st sh M c s))
theorem e38_17 {v1 : Value} : mr38 S P 17 L (v1 :: st) sh M c s = (mv_ss st ≤ 8 ∧ c ≤ 0 ∧ s ≤ 0 ∧ mv_isO sh (some v1) 2 ∧ mv_kal S 25 [v1] sh M (mr38 S P) 20 L st c s) := (propext (mv_R_iff (i := .invokevirtual 64) (len := 3) (ax := [0, 25, 1, 2, 0, 0, 0, 415, 417, 4, 110, 418]) (by decide +kernel))).trans (q_call0)
theorem e38_20 : mr38 S P 20 L st sh M c s = (mr38 S P 22 L (.int (nI 59) :: st) sh M c s) := propext (mv_R_iff (i := .bipush 59) (len := 2) (ax := []) (by decide +kernel))
theorem e38_22 {y : Int32} {x : Int32} : mr38 S P 22 L (.int y :: .int x :: st) sh M c s = (if x = y then mr38 S P 77 L st sh M c s else mr38 S P 25 L st sh M c s) := (propext (mv_R_iff (i := .if_icmp .eq 55) (len := 3) (ax := [77]) (by decide +kernel))).trans (q_br)
theorem e38_25 : mr38 S P 25 L st sh M c s = (q_isA (q_gv L 0) ∧ mr38 S P 26 L (q_gv L 0 :: st) sh M c s) := (propext (mv_R_iff (i := .aload_n 0) (len := 1) (ax := []) (by decide +kernel))).trans (q_ldA_eq (K := fun st => mr38 S P 26 L st sh M c s))
theorem e38_26 {v1 : Value} : mr38 S P 26 L (v1 :: st) sh M c s = (mv_ss st ≤ 8 ∧ c ≤ 0 ∧ s ≤ 0 ∧ mv_isO sh (some v1) 2 ∧ mv_kal S 27 [v1] sh M (mr38 S P) 29 L st c s) := (propext (mv_R_iff (i := .invokevirtual 57) (len := 3) (ax := [0, 27, 1, 2, 0, 0, 0, 444, 446, 7, 110, 447]) (by decide +kernel))).trans (q_call0)
theorem e38_29 {x : Int32} : mr38 S P 29 L (.int x :: st) sh M c s = (q_hs L 2 ∧ mr38 S P 30 (L.set 2 (some (.int x))) st sh M c s) := (propext (mv_R_iff (i := .istore_n 2) (len := 1) (ax := []) (by decide +kernel))).trans (q_st_eq (K := fun L => mr38 S P 30 L st sh M c s))
theorem e38_30 : mr38 S P 30 L st sh M c s = (q_isA (q_gv L 0) ∧ mr38 S P 31 L (q_gv L 0 :: st) sh M c s) := (propext (mv_R_iff (i := .aload_n 0) (len := 1) (ax := []) (by decide +kernel))).trans (q_ldA_eq (K := fun st => mr38 S P 31 L st sh M c s))
theorem e38_31 {v1 : Value} : mr38 S P 31 L (v1 :: st) sh M c s = (mv_ss st ≤ 8 ∧ c ≤ 0 ∧ s ≤ 0 ∧ mv_isO sh (some v1) 2 ∧ mv_kal S 26 [v1] sh M (mr38 S P) 34 L st c s) := (propext (mv_R_iff (i := .invokevirtual 39) (len := 3) (ax := [0, 26, 1, 2, 0, 0, 0, 411, 413, 3, 110, 414]) (by decide +kernel))).trans (q_call0)
theorem e38_34 {v1 : Value} : mr38 S P 34 L (v1 :: st) sh M c s = (mv_ss st ≤ 8 ∧ c ≤ 0 ∧ s ≤ 0 ∧ True ∧ mv_kal S 36 [v1] sh M (mr38 S P) 37 L st c s) := (propext (mv_R_iff (i := .invokestatic 80) (len := 3) (ax := [3, 36, 1, 0, 0, 0, 0, 476, 477, 110, 478]) (by decide +kernel))).trans (q_call3)
theorem e38_37 {x : Int32} : mr38 S P 37 L (.int x :: st) sh M c s = (q_hs L 3 ∧ mr38 S P 38 (L.set 3 (some (.int x))) st sh M c s) := (propext (mv_R_iff (i := .istore_n 3) (len := 1) (ax := []) (by decide +kernel))).trans (q_st_eq (K := fun L => mr38 S P 38 L st sh M c s))
theorem e38_38 : mr38 S P 38 L st sh M c s = (q_isI (q_gv L 2) ∧ mr38 S P 39 L (q_gv L 2 :: st) sh M c s) := (propext (mv_R_iff (i := .iload_n 2) (len := 1) (ax := []) (by decide +kernel))).trans (q_ldI_eq (K := fun st => mr38 S P 39 L st sh M c s))
theorem e38_39 {x : Int32} : mr38 S P 39 L (.int x :: st) sh M c s = (if x < nI 0 then mr38 S P 69 L st sh M c s else mr38 S P 42 L st sh M c s) := (propext (mv_R_iff (i := .ifCond .lt 30) (len := 3) (ax := [69]) (by decide +kernel))).trans (q_br)
theorem e38_42 : mr38 S P 42 L st sh M c s = (q_isI (q_gv L 2) ∧ mr38 S P 43 L (q_gv L 2 :: st) sh M c s) := (propext (mv_R_iff (i := .iload_n 2) (len := 1) (ax := []) (by decide +kernel))).trans (q_ldI_eq (K := fun st => mr38 S P 43 L st sh M c s))
theorem e38_43 : mr38 S P 43 L st sh M c s = (q_isA (q_gv L 0) ∧ mr38 S P 44 L (q_gv L 0 :: st) sh M c s) := (propext (mv_R_iff (i := .aload_n 0) (len := 1) (ax := []) (by decide +kernel))).trans (q_ldA_eq (K := fun st => mr38 S P 44 L st sh M c s))
theorem e38_44 {a : Nat} : mr38 S P 44 L (.ref a :: st) sh M c s = (mv_kgf sh M a 2 1 (mr38 S P) 47 L st c s) := propext (mv_R_iff (i := .getfield 12) (len := 3) (ax := [220, 0, 2, 1]) (by decide +kernel))
theorem e38_47 {a : Nat} : mr38 S P 47 L (.ref a :: st) sh M c s = (mv_kgf sh M a 1 1 (mr38 S P) 50 L st c s) := propext (mv_R_iff (i := .getfield 84) (len := 3) (ax := [175, 1, 1, 1]) (by decide +kernel))
theorem e38_50 {y : Int32} {x : Int32} : mr38 S P 50 L (.int y :: .int x :: st) sh M c s = (if y ≤ x then mr38 S P 69 L st sh M c s else mr38 S P 53 L st sh M c s) := (propext (mv_R_iff (i := .if_icmp .ge 19) (len := 3) (ax := [69]) (by decide +kernel))).trans (q_br)
theorem e38_53 : mr38 S P 53 L st sh M c s = (q_isI (q_gv L 3) ∧ mr38 S P 54 L (q_gv L 3 :: st) sh M c s) := (propext (mv_R_iff (i := .iload_n 3) (len := 1) (ax := []) (by decide +kernel))).trans (q_ldI_eq (K := fun st => mr38 S P 54 L st sh M c s))
theorem e38_54 {x : Int32} : mr38 S P 54 L (.int x :: st) sh M c s = (if x < nI 0 then mr38 S P 69 L st sh M c s else mr38 S P 57 L st sh M c s) := (propext (mv_R_iff (i := .ifCond .lt 15) (len := 3) (ax := [69]) (by decide +kernel))).trans (q_br)
theorem e38_57 : mr38 S P 57 L st sh M c s = (q_isA (q_gv L 0) ∧ mr38 S P 58 L (q_gv L 0 :: st) sh M c s) := (propext (mv_R_iff (i := .aload_n 0) (len := 1) (ax := []) (by decide +kernel))).trans (q_ldA_eq (K := fun st => mr38 S P 58 L st sh M c s))
theorem e38_58 {a : Nat} : mr38 S P 58 L (.ref a :: st) sh M c s = (mv_kgf sh M a 2 1 (mr38 S P) 61 L st c s) := propext (mv_R_iff (i := .getfield 12) (len := 3) (ax := [220, 0, 2, 1]) (by decide +kernel))
theorem e38_61 : mr38 S P 61 L st sh M c s = (q_isI (q_gv L 2) ∧ mr38 S P 62 L (q_gv L 2 :: st) sh M c s) := (propext (mv_R_iff (i := .iload_n 2) (len := 1) (ax := []) (by decide +kernel))).trans (q_ldI_eq (K := fun st => mr38 S P 62 L st sh M c s))
theorem e38_62 : mr38 S P 62 L st sh M c s = (q_isI (q_gv L 3) ∧ mr38 S P 63 L (q_gv L 3 :: st) sh M c s) := (propext (mv_R_iff (i := .iload_n 3) (len := 1) (ax := []) (by decide +kernel))).trans (q_ldI_eq (K := fun st => mr38 S P 63 L st sh M c s))
theorem e38_63 {v3 : Value} {v2 : Value} {v1 : Value} : mr38 S P 63 L (v3 :: v2 :: v1 :: st) sh M c s = (mv_ss st ≤ 8 ∧ c ≤ 0 ∧ s ≤ 0 ∧ mv_isO sh (some v1) 1 ∧ mv_kal S 37 [v1, v2, v3] sh M (mr38 S P) 66 L st c s) := (propext (mv_R_iff (i := .invokevirtual 87) (len := 3) (ax := [1, 37, 3, 1, 0, 0, 479, 481, 15, 109, 482]) (by decide +kernel))).trans (q_call1)
theorem e38_66 {x : Int32} : mr38 S P 66 L (.int x :: st) sh M c s = (if x = nI 0 then mr38 S P 69 L st sh M c s else mr38 S P 71 L st sh M c s) := (propext (mv_R_iff (i := .ifCond .ne 5) (len := 3) (ax := [71]) (by decide +kernel))).trans (q_br')
theorem e38_69 : mr38 S P 69 L st sh M c s = (mr38 S P 70 L (.int (nI 0) :: st) sh M c s) := propext (mv_R_iff (i := .iconst 0) (len := 1) (ax := []) (by decide +kernel))
theorem e38_70 {x : Int32} : mr38 S P 70 L [.int x] sh M c s = (mv_nr 1 x ∧ P (some (.int x)) sh M) := propext (mv_R_iff (i := .ireturn) (len := 1) (ax := [1]) (by decide +kernel))
theorem e38_71 : mr38 S P 71 L st sh M c s = ((q_isI (q_gv L 1) ∧ q_hs L 1) ∧ mr38 S P 74 (L.set 1 (some (q_inc (q_gv L 1) (nI 1)))) st sh M c s) := (propext (mv_R_iff (i := .iinc 1 1) (len := 3) (ax := []) (by decide +kernel))).trans (q_inc_eq (K := fun L => mr38 S P 74 L st sh M c s))
theorem e38_74 : mr38 S P 74 L st sh M c s = (mr38 S P 10 L st sh M c s) := propext (mv_R_iff (i := .goto (-64)) (len := 3) (ax := [10]) (by decide +kernel))
theorem e38_77 : mr38 S P 77 L st sh M c s = (q_isA (q_gv L 0) ∧ mr38 S P 78 L (q_gv L 0 :: st) sh M c s) := (propext (mv_R_iff (i := .aload_n 0) (len := 1) (ax := []) (by decide +kernel))).trans (q_ldA_eq (K := fun st => mr38 S P 78 L st sh M c s))
theorem e38_78 {a : Nat} : mr38 S P 78 L (.ref a :: st) sh M c s = (mv_kgf sh M a 2 1 (mr38 S P) 81 L st c s) := propext (mv_R_iff (i := .getfield 12) (len := 3) (ax := [220, 0, 2, 1]) (by decide +kernel))
theorem e38_81 {a : Nat} : mr38 S P 81 L (.ref a :: st) sh M c s = (mv_kgf sh M a 1 2 (mr38 S P) 84 L st c s) := propext (mv_R_iff (i := .getfield 77) (len := 3) (ax := [177, 1, 1, 2]) (by decide +kernel))
theorem e38_84 {x : Int32} : mr38 S P 84 L (.int x :: st) sh M c s = (if x ≤ nI 0 then mr38 S P 100 L st sh M c s else mr38 S P 87 L st sh M c s) := (propext (mv_R_iff (i := .ifCond .le 16) (len := 3) (ax := [100]) (by decide +kernel))).trans (q_br)
theorem e38_87 : mr38 S P 87 L st sh M c s = (q_isA (q_gv L 0) ∧ mr38 S P 88 L (q_gv L 0 :: st) sh M c s) := (propext (mv_R_iff (i := .aload_n 0) (len := 1) (ax := []) (by decide +kernel))).trans (q_ldA_eq (K := fun st => mr38 S P 88 L st sh M c s))
theorem e38_88 {v1 : Value} : mr38 S P 88 L (v1 :: st) sh M c s = (mv_ss st ≤ 8 ∧ c ≤ 0 ∧ s ≤ 0 ∧ mv_isO sh (some v1) 2 ∧ mv_kal S 26 [v1] sh M (mr38 S P) 91 L st c s) := (propext (mv_R_iff (i := .invokevirtual 39) (len := 3) (ax := [0, 26, 1, 2, 0, 0, 0, 411, 413, 3, 110, 414]) (by decide +kernel))).trans (q_call0)
theorem e38_91 : mr38 S P 91 L st sh M c s = (mr38 S P 93 L (.int (nI 59) :: st) sh M c s) := propext (mv_R_iff (i := .bipush 59) (len := 2) (ax := []) (by decide +kernel))
theorem e38_93 {y : Int32} {x : Int32} : mr38 S P 93 L (.int y :: .int x :: st) sh M c s = (if x = y then mr38 S P 96 L st sh M c s else mr38 S P 100 L st sh M c s) := (propext (mv_R_iff (i := .if_icmp .ne 7) (len := 3) (ax := [100]) (by decide +kernel))).trans (q_br')
theorem e38_96 : mr38 S P 96 L st sh M c s = (mr38 S P 97 L (.int (nI 1) :: st) sh M c s) := propext (mv_R_iff (i := .iconst 1) (len := 1) (ax := []) (by decide +kernel))
theorem e38_97 : mr38 S P 97 L st sh M c s = (mr38 S P 101 L st sh M c s) := propext (mv_R_iff (i := .goto 4) (len := 3) (ax := [101]) (by decide +kernel))
theorem e38_100 : mr38 S P 100 L st sh M c s = (mr38 S P 101 L (.int (nI 0) :: st) sh M c s) := propext (mv_R_iff (i := .iconst 0) (len := 1) (ax := []) (by decide +kernel))
theorem e38_101 {x : Int32} : mr38 S P 101 L [.int x] sh M c s = (mv_nr 1 x ∧ P (some (.int x)) sh M) := propext (mv_R_iff (i := .ireturn) (len := 1) (ax := [1]) (by decide +kernel))
-- 39: Reader.readItem()Z
def mk39 : mv_Cd := [
  (0, .aload_n 0, 1, []),
  (1, .invokevirtual 39, 3, [0, 26, 1, 2, 0, 0, 0, 411, 413, 3, 110, 414]),
  (4, .lookupswitch 64 #[(100, 59), (108, 54), (112, 49), (116, 44)], 44, [68, 63, 58, 53, 48]),
  (48, .aload_n 0, 1, []),
  (49, .invokevirtual 42, 3, [0, 32, 1, 2, 0, 0, 0, 436, 438, 5, 110, 439]),
  (52, .ireturn, 1, [1]),
  (53, .aload_n 0, 1, []),
  (54, .invokevirtual 45, 3, [0, 34, 1, 2, 0, 0, 0, 460, 462, 11, 110, 463]),
  (57, .ireturn, 1, [1]),
  (58, .aload_n 0, 1, []),
  (59, .invokevirtual 48, 3, [0, 35, 1, 2, 0, 0, 0, 468, 470, 13, 110, 471]),
  (62, .ireturn, 1, [1]),
  (63, .aload_n 0, 1, []),
  (64, .invokevirtual 51, 3, [0, 38, 1, 2, 0, 0, 0, 472, 474, 14, 110, 475]),
  (67, .ireturn, 1, [1]),
  (68, .iconst 0, 1, []),
  (69, .ireturn, 1, [1])]
def mr39 (S : Nat → mv_Sp) (P : mv_Post) : mv_Kt := mv_R mv_DF mk39 S (0, 0) P
theorem e39_0 : mr39 S P 0 L st sh M c s = (q_isA (q_gv L 0) ∧ mr39 S P 1 L (q_gv L 0 :: st) sh M c s) := (propext (mv_R_iff (i := .aload_n 0) (len := 1) (ax := []) (by decide +kernel))).trans (q_ldA_eq (K := fun st => mr39 S P 1 L st sh M c s))
theorem e39_1 {v1 : Value} : mr39 S P 1 L (v1 :: st) sh M c s = (mv_ss st ≤ 8 ∧ c ≤ 0 ∧ s ≤ 0 ∧ mv_isO sh (some v1) 2 ∧ mv_kal S 26 [v1] sh M (mr39 S P) 4 L st c s) := (propext (mv_R_iff (i := .invokevirtual 39) (len := 3) (ax := [0, 26, 1, 2, 0, 0, 0, 411, 413, 3, 110, 414]) (by decide +kernel))).trans (q_call0)
theorem e39_4 {x : Int32} : mr39 S P 4 L (.int x :: st) sh M c s = (if x = (nI 100) then mr39 S P 63 L st sh M c s else if x = (nI 108) then mr39 S P 58 L st sh M c s else if x = (nI 112) then mr39 S P 53 L st sh M c s else if x = (nI 116) then mr39 S P 48 L st sh M c s else mr39 S P 68 L st sh M c s) := (propext (mv_R_iff (i := .lookupswitch 64 #[(100, 59), (108, 54), (112, 49), (116, 44)]) (len := 44) (ax := [68, 63, 58, 53, 48]) (by decide +kernel))).trans (q_sw4)
theorem e39_48 : mr39 S P 48 L st sh M c s = (q_isA (q_gv L 0) ∧ mr39 S P 49 L (q_gv L 0 :: st) sh M c s) := (propext (mv_R_iff (i := .aload_n 0) (len := 1) (ax := []) (by decide +kernel))).trans (q_ldA_eq (K := fun st => mr39 S P 49 L st sh M c s))
theorem e39_49 {v1 : Value} : mr39 S P 49 L (v1 :: st) sh M c s = (mv_ss st ≤ 8 ∧ c ≤ 0 ∧ s ≤ 0 ∧ mv_isO sh (some v1) 2 ∧ mv_kal S 32 [v1] sh M (mr39 S P) 52 L st c s) := (propext (mv_R_iff (i := .invokevirtual 42) (len := 3) (ax := [0, 32, 1, 2, 0, 0, 0, 436, 438, 5, 110, 439]) (by decide +kernel))).trans (q_call0)
theorem e39_52 {x : Int32} : mr39 S P 52 L [.int x] sh M c s = (mv_nr 1 x ∧ P (some (.int x)) sh M) := propext (mv_R_iff (i := .ireturn) (len := 1) (ax := [1]) (by decide +kernel))
theorem e39_53 : mr39 S P 53 L st sh M c s = (q_isA (q_gv L 0) ∧ mr39 S P 54 L (q_gv L 0 :: st) sh M c s) := (propext (mv_R_iff (i := .aload_n 0) (len := 1) (ax := []) (by decide +kernel))).trans (q_ldA_eq (K := fun st => mr39 S P 54 L st sh M c s))
theorem e39_54 {v1 : Value} : mr39 S P 54 L (v1 :: st) sh M c s = (mv_ss st ≤ 8 ∧ c ≤ 0 ∧ s ≤ 0 ∧ mv_isO sh (some v1) 2 ∧ mv_kal S 34 [v1] sh M (mr39 S P) 57 L st c s) := (propext (mv_R_iff (i := .invokevirtual 45) (len := 3) (ax := [0, 34, 1, 2, 0, 0, 0, 460, 462, 11, 110, 463]) (by decide +kernel))).trans (q_call0)
theorem e39_57 {x : Int32} : mr39 S P 57 L [.int x] sh M c s = (mv_nr 1 x ∧ P (some (.int x)) sh M) := propext (mv_R_iff (i := .ireturn) (len := 1) (ax := [1]) (by decide +kernel))
theorem e39_58 : mr39 S P 58 L st sh M c s = (q_isA (q_gv L 0) ∧ mr39 S P 59 L (q_gv L 0 :: st) sh M c s) := (propext (mv_R_iff (i := .aload_n 0) (len := 1) (ax := []) (by decide +kernel))).trans (q_ldA_eq (K := fun st => mr39 S P 59 L st sh M c s))
theorem e39_59 {v1 : Value} : mr39 S P 59 L (v1 :: st) sh M c s = (mv_ss st ≤ 8 ∧ c ≤ 0 ∧ s ≤ 0 ∧ mv_isO sh (some v1) 2 ∧ mv_kal S 35 [v1] sh M (mr39 S P) 62 L st c s) := (propext (mv_R_iff (i := .invokevirtual 48) (len := 3) (ax := [0, 35, 1, 2, 0, 0, 0, 468, 470, 13, 110, 471]) (by decide +kernel))).trans (q_call0)
theorem e39_62 {x : Int32} : mr39 S P 62 L [.int x] sh M c s = (mv_nr 1 x ∧ P (some (.int x)) sh M) := propext (mv_R_iff (i := .ireturn) (len := 1) (ax := [1]) (by decide +kernel))
theorem e39_63 : mr39 S P 63 L st sh M c s = (q_isA (q_gv L 0) ∧ mr39 S P 64 L (q_gv L 0 :: st) sh M c s) := (propext (mv_R_iff (i := .aload_n 0) (len := 1) (ax := []) (by decide +kernel))).trans (q_ldA_eq (K := fun st => mr39 S P 64 L st sh M c s))
theorem e39_64 {v1 : Value} : mr39 S P 64 L (v1 :: st) sh M c s = (mv_ss st ≤ 8 ∧ c ≤ 0 ∧ s ≤ 0 ∧ mv_isO sh (some v1) 2 ∧ mv_kal S 38 [v1] sh M (mr39 S P) 67 L st c s) := (propext (mv_R_iff (i := .invokevirtual 51) (len := 3) (ax := [0, 38, 1, 2, 0, 0, 0, 472, 474, 14, 110, 475]) (by decide +kernel))).trans (q_call0)
theorem e39_67 {x : Int32} : mr39 S P 67 L [.int x] sh M c s = (mv_nr 1 x ∧ P (some (.int x)) sh M) := propext (mv_R_iff (i := .ireturn) (len := 1) (ax := [1]) (by decide +kernel))
theorem e39_68 : mr39 S P 68 L st sh M c s = (mr39 S P 69 L (.int (nI 0) :: st) sh M c s) := propext (mv_R_iff (i := .iconst 0) (len := 1) (ax := []) (by decide +kernel))
theorem e39_69 {x : Int32} : mr39 S P 69 L [.int x] sh M c s = (mv_nr 1 x ∧ P (some (.int x)) sh M) := propext (mv_R_iff (i := .ireturn) (len := 1) (ax := [1]) (by decide +kernel))
-- 40: Reader.readText()I
def mk40 : mv_Cd := [
  (0, .aload_n 0, 1, []),
  (1, .iconst 0, 1, []),
  (2, .putfield 22, 3, [222, 0, 2, 2, 0]),
  (5, .aload_n 0, 1, []),
  (6, .getfield 12, 3, [220, 0, 2, 1]),
  (9, .invokevirtual 26, 3, [1, 18, 1, 1, 0, 0, 396, 398, 1, 109, 399]),
  (12, .iconst 0, 1, []),
  (13, .istore_n 1, 1, []),
  (14, .iload_n 1, 1, []),
  (15, .sipush 200, 3, []),
  (18, .if_icmp .ge 37, 3, [55]),
  (21, .aload_n 0, 1, []),
  (22, .getfield 22, 3, [222, 0, 2, 2]),
  (25, .aload_n 0, 1, []),
  (26, .getfield 18, 3, [219, 0, 2, 0]),
  (29, .invokevirtual 29, 3, [0, 20, 1, 6, 0, 0, 0, 400, 401, 402, 106, 403]),
  (32, .if_icmp .ge 23, 3, [55]),
  (35, .aload_n 0, 1, []),
  (36, .getfield 22, 3, [222, 0, 2, 2]),
  (39, .istore_n 2, 1, []),
  (40, .aload_n 0, 1, []),
  (41, .invokevirtual 35, 3, [0, 39, 1, 2, 0, 0, 0, 407, 409, 2, 110, 410]),
  (44, .ifCond .ne 5, 3, [49]),
  (47, .iload_n 2, 1, []),
  (48, .ireturn, 1, [0]),
  (49, .iinc 1 1, 3, []),
  (52, .goto (-38), 3, [14]),
  (55, .bipush (-4), 2, []),
  (57, .ireturn, 1, [0])]
def mr40 (S : Nat → mv_Sp) (P : mv_Post) : mv_Kt := mv_R mv_DF mk40 S (0, 0) P
theorem e40_0 : mr40 S P 0 L st sh M c s = (q_isA (q_gv L 0) ∧ mr40 S P 1 L (q_gv L 0 :: st) sh M c s) := (propext (mv_R_iff (i := .aload_n 0) (len := 1) (ax := []) (by decide +kernel))).trans (q_ldA_eq (K := fun st => mr40 S P 1 L st sh M c s))
theorem e40_1 : mr40 S P 1 L st sh M c s = (mr40 S P 2 L (.int (nI 0) :: st) sh M c s) := propext (mv_R_iff (i := .iconst 0) (len := 1) (ax := []) (by decide +kernel))
theorem e40_2 {x : Int32} {a : Nat} : mr40 S P 2 L (.int x :: .ref a :: st) sh M c s = (True ∧ mv_kpf sh M a 2 2 x (mr40 S P) 5 L st c s) := propext (mv_R_iff (i := .putfield 22) (len := 3) (ax := [222, 0, 2, 2, 0]) (by decide +kernel))
theorem e40_5 : mr40 S P 5 L st sh M c s = (q_isA (q_gv L 0) ∧ mr40 S P 6 L (q_gv L 0 :: st) sh M c s) := (propext (mv_R_iff (i := .aload_n 0) (len := 1) (ax := []) (by decide +kernel))).trans (q_ldA_eq (K := fun st => mr40 S P 6 L st sh M c s))
theorem e40_6 {a : Nat} : mr40 S P 6 L (.ref a :: st) sh M c s = (mv_kgf sh M a 2 1 (mr40 S P) 9 L st c s) := propext (mv_R_iff (i := .getfield 12) (len := 3) (ax := [220, 0, 2, 1]) (by decide +kernel))
theorem e40_9 {v1 : Value} : mr40 S P 9 L (v1 :: st) sh M c s = (mv_ss st ≤ 8 ∧ c ≤ 0 ∧ s ≤ 0 ∧ mv_isO sh (some v1) 1 ∧ mv_kal S 18 [v1] sh M (mr40 S P) 12 L st c s) := (propext (mv_R_iff (i := .invokevirtual 26) (len := 3) (ax := [1, 18, 1, 1, 0, 0, 396, 398, 1, 109, 399]) (by decide +kernel))).trans (q_call1)
theorem e40_12 : mr40 S P 12 L st sh M c s = (mr40 S P 13 L (.int (nI 0) :: st) sh M c s) := propext (mv_R_iff (i := .iconst 0) (len := 1) (ax := []) (by decide +kernel))
theorem e40_13 {x : Int32} : mr40 S P 13 L (.int x :: st) sh M c s = (q_hs L 1 ∧ mr40 S P 14 (L.set 1 (some (.int x))) st sh M c s) := (propext (mv_R_iff (i := .istore_n 1) (len := 1) (ax := []) (by decide +kernel))).trans (q_st_eq (K := fun L => mr40 S P 14 L st sh M c s))
theorem e40_14 : mr40 S P 14 L st sh M c s = (q_isI (q_gv L 1) ∧ mr40 S P 15 L (q_gv L 1 :: st) sh M c s) := (propext (mv_R_iff (i := .iload_n 1) (len := 1) (ax := []) (by decide +kernel))).trans (q_ldI_eq (K := fun st => mr40 S P 15 L st sh M c s))
theorem e40_15 : mr40 S P 15 L st sh M c s = (mr40 S P 18 L (.int (nI 200) :: st) sh M c s) := propext (mv_R_iff (i := .sipush 200) (len := 3) (ax := []) (by decide +kernel))
theorem e40_18 {y : Int32} {x : Int32} : mr40 S P 18 L (.int y :: .int x :: st) sh M c s = (if y ≤ x then mr40 S P 55 L st sh M c s else mr40 S P 21 L st sh M c s) := (propext (mv_R_iff (i := .if_icmp .ge 37) (len := 3) (ax := [55]) (by decide +kernel))).trans (q_br)
theorem e40_21 : mr40 S P 21 L st sh M c s = (q_isA (q_gv L 0) ∧ mr40 S P 22 L (q_gv L 0 :: st) sh M c s) := (propext (mv_R_iff (i := .aload_n 0) (len := 1) (ax := []) (by decide +kernel))).trans (q_ldA_eq (K := fun st => mr40 S P 22 L st sh M c s))
theorem e40_22 {a : Nat} : mr40 S P 22 L (.ref a :: st) sh M c s = (mv_kgf sh M a 2 2 (mr40 S P) 25 L st c s) := propext (mv_R_iff (i := .getfield 22) (len := 3) (ax := [222, 0, 2, 2]) (by decide +kernel))
theorem e40_25 : mr40 S P 25 L st sh M c s = (q_isA (q_gv L 0) ∧ mr40 S P 26 L (q_gv L 0 :: st) sh M c s) := (propext (mv_R_iff (i := .aload_n 0) (len := 1) (ax := []) (by decide +kernel))).trans (q_ldA_eq (K := fun st => mr40 S P 26 L st sh M c s))
theorem e40_26 {a : Nat} : mr40 S P 26 L (.ref a :: st) sh M c s = (mv_kgf sh M a 2 0 (mr40 S P) 29 L st c s) := propext (mv_R_iff (i := .getfield 18) (len := 3) (ax := [219, 0, 2, 0]) (by decide +kernel))
theorem e40_29 {v1 : Value} : mr40 S P 29 L (v1 :: st) sh M c s = (mv_ss st ≤ 8 ∧ c ≤ 0 ∧ s ≤ 0 ∧ mv_isO sh (some v1) 6 ∧ mv_kal S 20 [v1] sh M (mr40 S P) 32 L st c s) := (propext (mv_R_iff (i := .invokevirtual 29) (len := 3) (ax := [0, 20, 1, 6, 0, 0, 0, 400, 401, 402, 106, 403]) (by decide +kernel))).trans (q_call0)
theorem e40_32 {y : Int32} {x : Int32} : mr40 S P 32 L (.int y :: .int x :: st) sh M c s = (if y ≤ x then mr40 S P 55 L st sh M c s else mr40 S P 35 L st sh M c s) := (propext (mv_R_iff (i := .if_icmp .ge 23) (len := 3) (ax := [55]) (by decide +kernel))).trans (q_br)
theorem e40_35 : mr40 S P 35 L st sh M c s = (q_isA (q_gv L 0) ∧ mr40 S P 36 L (q_gv L 0 :: st) sh M c s) := (propext (mv_R_iff (i := .aload_n 0) (len := 1) (ax := []) (by decide +kernel))).trans (q_ldA_eq (K := fun st => mr40 S P 36 L st sh M c s))
theorem e40_36 {a : Nat} : mr40 S P 36 L (.ref a :: st) sh M c s = (mv_kgf sh M a 2 2 (mr40 S P) 39 L st c s) := propext (mv_R_iff (i := .getfield 22) (len := 3) (ax := [222, 0, 2, 2]) (by decide +kernel))
theorem e40_39 {x : Int32} : mr40 S P 39 L (.int x :: st) sh M c s = (q_hs L 2 ∧ mr40 S P 40 (L.set 2 (some (.int x))) st sh M c s) := (propext (mv_R_iff (i := .istore_n 2) (len := 1) (ax := []) (by decide +kernel))).trans (q_st_eq (K := fun L => mr40 S P 40 L st sh M c s))
theorem e40_40 : mr40 S P 40 L st sh M c s = (q_isA (q_gv L 0) ∧ mr40 S P 41 L (q_gv L 0 :: st) sh M c s) := (propext (mv_R_iff (i := .aload_n 0) (len := 1) (ax := []) (by decide +kernel))).trans (q_ldA_eq (K := fun st => mr40 S P 41 L st sh M c s))
theorem e40_41 {v1 : Value} : mr40 S P 41 L (v1 :: st) sh M c s = (mv_ss st ≤ 8 ∧ c ≤ 0 ∧ s ≤ 0 ∧ mv_isO sh (some v1) 2 ∧ mv_kal S 39 [v1] sh M (mr40 S P) 44 L st c s) := (propext (mv_R_iff (i := .invokevirtual 35) (len := 3) (ax := [0, 39, 1, 2, 0, 0, 0, 407, 409, 2, 110, 410]) (by decide +kernel))).trans (q_call0)
theorem e40_44 {x : Int32} : mr40 S P 44 L (.int x :: st) sh M c s = (if x = nI 0 then mr40 S P 47 L st sh M c s else mr40 S P 49 L st sh M c s) := (propext (mv_R_iff (i := .ifCond .ne 5) (len := 3) (ax := [49]) (by decide +kernel))).trans (q_br')
theorem e40_47 : mr40 S P 47 L st sh M c s = (q_isI (q_gv L 2) ∧ mr40 S P 48 L (q_gv L 2 :: st) sh M c s) := (propext (mv_R_iff (i := .iload_n 2) (len := 1) (ax := []) (by decide +kernel))).trans (q_ldI_eq (K := fun st => mr40 S P 48 L st sh M c s))
theorem e40_48 {x : Int32} : mr40 S P 48 L [.int x] sh M c s = (mv_nr 0 x ∧ P (some (.int x)) sh M) := propext (mv_R_iff (i := .ireturn) (len := 1) (ax := [0]) (by decide +kernel))
theorem e40_49 : mr40 S P 49 L st sh M c s = ((q_isI (q_gv L 1) ∧ q_hs L 1) ∧ mr40 S P 52 (L.set 1 (some (q_inc (q_gv L 1) (nI 1)))) st sh M c s) := (propext (mv_R_iff (i := .iinc 1 1) (len := 3) (ax := []) (by decide +kernel))).trans (q_inc_eq (K := fun L => mr40 S P 52 L st sh M c s))
theorem e40_52 : mr40 S P 52 L st sh M c s = (mr40 S P 14 L st sh M c s) := propext (mv_R_iff (i := .goto (-38)) (len := 3) (ax := [14]) (by decide +kernel))
theorem e40_55 : mr40 S P 55 L st sh M c s = (mr40 S P 57 L (.int (Int32.ofInt (-4)) :: st) sh M c s) := (propext (mv_R_iff (i := .bipush (-4)) (len := 2) (ax := []) (by decide +kernel))).trans (congrArg (fun z => mr40 S P 57 L (.int z :: st) sh M c s) (by decide : (Int8.ofInt (-4)).toInt32 = Int32.ofInt (-4)))
theorem e40_57 {x : Int32} : mr40 S P 57 L [.int x] sh M c s = (mv_nr 0 x ∧ P (some (.int x)) sh M) := propext (mv_R_iff (i := .ireturn) (len := 1) (ax := [0]) (by decide +kernel))
-- 41: Loom.copyFrom(LTurnedTablets$Loom;)V
def mk41 : mv_Cd := [
  (0, .aload_n 0, 1, []),
  (1, .aload_n 1, 1, []),
  (2, .getfield 30, 3, [167, 0, 1, 0]),
  (5, .putfield 30, 3, [167, 0, 1, 0, 0]),
  (8, .aload_n 0, 1, []),
  (9, .aload_n 1, 1, []),
  (10, .getfield 34, 3, [173, 0, 1, 1]),
  (13, .putfield 34, 3, [173, 0, 1, 1, 0]),
  (16, .aload_n 0, 1, []),
  (17, .aload_n 1, 1, []),
  (18, .getfield 37, 3, [176, 0, 1, 2]),
  (21, .putfield 37, 3, [176, 0, 1, 2, 0]),
  (24, .aload_n 0, 1, []),
  (25, .aload_n 1, 1, []),
  (26, .getfield 40, 3, [179, 0, 1, 3]),
  (29, .putfield 40, 3, [179, 0, 1, 3, 0]),
  (32, .aload_n 1, 1, []),
  (33, .getfield 9, 3, [183, 0, 1, 4]),
  (36, .iconst 0, 1, []),
  (37, .aload_n 0, 1, []),
  (38, .getfield 9, 3, [183, 0, 1, 4]),
  (41, .iconst 0, 1, []),
  (42, .bipush 6, 2, []),
  (44, .invokestatic 43, 3, [10, 487, 313, 312, 116]),
  (47, .aload_n 1, 1, []),
  (48, .getfield 15, 3, [184, 0, 1, 5]),
  (51, .iconst 0, 1, []),
  (52, .aload_n 0, 1, []),
  (53, .getfield 15, 3, [184, 0, 1, 5]),
  (56, .iconst 0, 1, []),
  (57, .bipush 6, 2, []),
  (59, .invokestatic 43, 3, [10, 487, 313, 312, 116]),
  (62, .aload_n 1, 1, []),
  (63, .getfield 18, 3, [185, 0, 1, 6]),
  (66, .iconst 0, 1, []),
  (67, .aload_n 0, 1, []),
  (68, .getfield 18, 3, [185, 0, 1, 6]),
  (71, .iconst 0, 1, []),
  (72, .bipush 24, 2, []),
  (74, .invokestatic 43, 3, [10, 487, 313, 312, 116]),
  (77, .aload_n 1, 1, []),
  (78, .getfield 21, 3, [186, 0, 1, 7]),
  (81, .iconst 0, 1, []),
  (82, .aload_n 0, 1, []),
  (83, .getfield 21, 3, [186, 0, 1, 7]),
  (86, .iconst 0, 1, []),
  (87, .bipush 24, 2, []),
  (89, .invokestatic 43, 3, [10, 487, 313, 312, 116]),
  (92, .aload_n 1, 1, []),
  (93, .getfield 24, 3, [187, 0, 1, 8]),
  (96, .iconst 0, 1, []),
  (97, .aload_n 0, 1, []),
  (98, .getfield 24, 3, [187, 0, 1, 8]),
  (101, .iconst 0, 1, []),
  (102, .bipush 6, 2, []),
  (104, .invokestatic 43, 3, [10, 487, 313, 312, 116]),
  (107, .aload_n 1, 1, []),
  (108, .getfield 27, 3, [188, 0, 1, 9]),
  (111, .iconst 0, 1, []),
  (112, .aload_n 0, 1, []),
  (113, .getfield 27, 3, [188, 0, 1, 9]),
  (116, .iconst 0, 1, []),
  (117, .bipush 8, 2, []),
  (119, .invokestatic 43, 3, [10, 487, 313, 312, 116]),
  (122, .return_, 1, [])]
def mr41 (S : Nat → mv_Sp) (P : mv_Post) : mv_Kt := mv_R mv_DF mk41 S (0, 0) P
theorem e41_0 : mr41 S P 0 L st sh M c s = (q_isA (q_gv L 0) ∧ mr41 S P 1 L (q_gv L 0 :: st) sh M c s) := (propext (mv_R_iff (i := .aload_n 0) (len := 1) (ax := []) (by decide +kernel))).trans (q_ldA_eq (K := fun st => mr41 S P 1 L st sh M c s))
theorem e41_1 : mr41 S P 1 L st sh M c s = (q_isA (q_gv L 1) ∧ mr41 S P 2 L (q_gv L 1 :: st) sh M c s) := (propext (mv_R_iff (i := .aload_n 1) (len := 1) (ax := []) (by decide +kernel))).trans (q_ldA_eq (K := fun st => mr41 S P 2 L st sh M c s))
theorem e41_2 {a : Nat} : mr41 S P 2 L (.ref a :: st) sh M c s = (mv_kgf sh M a 1 0 (mr41 S P) 5 L st c s) := propext (mv_R_iff (i := .getfield 30) (len := 3) (ax := [167, 0, 1, 0]) (by decide +kernel))
theorem e41_5 {x : Int32} {a : Nat} : mr41 S P 5 L (.int x :: .ref a :: st) sh M c s = (True ∧ mv_kpf sh M a 1 0 x (mr41 S P) 8 L st c s) := propext (mv_R_iff (i := .putfield 30) (len := 3) (ax := [167, 0, 1, 0, 0]) (by decide +kernel))
theorem e41_8 : mr41 S P 8 L st sh M c s = (q_isA (q_gv L 0) ∧ mr41 S P 9 L (q_gv L 0 :: st) sh M c s) := (propext (mv_R_iff (i := .aload_n 0) (len := 1) (ax := []) (by decide +kernel))).trans (q_ldA_eq (K := fun st => mr41 S P 9 L st sh M c s))
theorem e41_9 : mr41 S P 9 L st sh M c s = (q_isA (q_gv L 1) ∧ mr41 S P 10 L (q_gv L 1 :: st) sh M c s) := (propext (mv_R_iff (i := .aload_n 1) (len := 1) (ax := []) (by decide +kernel))).trans (q_ldA_eq (K := fun st => mr41 S P 10 L st sh M c s))
theorem e41_10 {a : Nat} : mr41 S P 10 L (.ref a :: st) sh M c s = (mv_kgf sh M a 1 1 (mr41 S P) 13 L st c s) := propext (mv_R_iff (i := .getfield 34) (len := 3) (ax := [173, 0, 1, 1]) (by decide +kernel))
theorem e41_13 {x : Int32} {a : Nat} : mr41 S P 13 L (.int x :: .ref a :: st) sh M c s = (True ∧ mv_kpf sh M a 1 1 x (mr41 S P) 16 L st c s) := propext (mv_R_iff (i := .putfield 34) (len := 3) (ax := [173, 0, 1, 1, 0]) (by decide +kernel))
theorem e41_16 : mr41 S P 16 L st sh M c s = (q_isA (q_gv L 0) ∧ mr41 S P 17 L (q_gv L 0 :: st) sh M c s) := (propext (mv_R_iff (i := .aload_n 0) (len := 1) (ax := []) (by decide +kernel))).trans (q_ldA_eq (K := fun st => mr41 S P 17 L st sh M c s))
theorem e41_17 : mr41 S P 17 L st sh M c s = (q_isA (q_gv L 1) ∧ mr41 S P 18 L (q_gv L 1 :: st) sh M c s) := (propext (mv_R_iff (i := .aload_n 1) (len := 1) (ax := []) (by decide +kernel))).trans (q_ldA_eq (K := fun st => mr41 S P 18 L st sh M c s))
theorem e41_18 {a : Nat} : mr41 S P 18 L (.ref a :: st) sh M c s = (mv_kgf sh M a 1 2 (mr41 S P) 21 L st c s) := propext (mv_R_iff (i := .getfield 37) (len := 3) (ax := [176, 0, 1, 2]) (by decide +kernel))
theorem e41_21 {x : Int32} {a : Nat} : mr41 S P 21 L (.int x :: .ref a :: st) sh M c s = (True ∧ mv_kpf sh M a 1 2 x (mr41 S P) 24 L st c s) := propext (mv_R_iff (i := .putfield 37) (len := 3) (ax := [176, 0, 1, 2, 0]) (by decide +kernel))
theorem e41_24 : mr41 S P 24 L st sh M c s = (q_isA (q_gv L 0) ∧ mr41 S P 25 L (q_gv L 0 :: st) sh M c s) := (propext (mv_R_iff (i := .aload_n 0) (len := 1) (ax := []) (by decide +kernel))).trans (q_ldA_eq (K := fun st => mr41 S P 25 L st sh M c s))
theorem e41_25 : mr41 S P 25 L st sh M c s = (q_isA (q_gv L 1) ∧ mr41 S P 26 L (q_gv L 1 :: st) sh M c s) := (propext (mv_R_iff (i := .aload_n 1) (len := 1) (ax := []) (by decide +kernel))).trans (q_ldA_eq (K := fun st => mr41 S P 26 L st sh M c s))
theorem e41_26 {a : Nat} : mr41 S P 26 L (.ref a :: st) sh M c s = (mv_kgf sh M a 1 3 (mr41 S P) 29 L st c s) := propext (mv_R_iff (i := .getfield 40) (len := 3) (ax := [179, 0, 1, 3]) (by decide +kernel))
theorem e41_29 {x : Int32} {a : Nat} : mr41 S P 29 L (.int x :: .ref a :: st) sh M c s = (True ∧ mv_kpf sh M a 1 3 x (mr41 S P) 32 L st c s) := propext (mv_R_iff (i := .putfield 40) (len := 3) (ax := [179, 0, 1, 3, 0]) (by decide +kernel))
theorem e41_32 : mr41 S P 32 L st sh M c s = (q_isA (q_gv L 1) ∧ mr41 S P 33 L (q_gv L 1 :: st) sh M c s) := (propext (mv_R_iff (i := .aload_n 1) (len := 1) (ax := []) (by decide +kernel))).trans (q_ldA_eq (K := fun st => mr41 S P 33 L st sh M c s))
theorem e41_33 {a : Nat} : mr41 S P 33 L (.ref a :: st) sh M c s = (mv_kgf sh M a 1 4 (mr41 S P) 36 L st c s) := propext (mv_R_iff (i := .getfield 9) (len := 3) (ax := [183, 0, 1, 4]) (by decide +kernel))
theorem e41_36 : mr41 S P 36 L st sh M c s = (mr41 S P 37 L (.int (nI 0) :: st) sh M c s) := propext (mv_R_iff (i := .iconst 0) (len := 1) (ax := []) (by decide +kernel))
theorem e41_37 : mr41 S P 37 L st sh M c s = (q_isA (q_gv L 0) ∧ mr41 S P 38 L (q_gv L 0 :: st) sh M c s) := (propext (mv_R_iff (i := .aload_n 0) (len := 1) (ax := []) (by decide +kernel))).trans (q_ldA_eq (K := fun st => mr41 S P 38 L st sh M c s))
theorem e41_38 {a : Nat} : mr41 S P 38 L (.ref a :: st) sh M c s = (mv_kgf sh M a 1 4 (mr41 S P) 41 L st c s) := propext (mv_R_iff (i := .getfield 9) (len := 3) (ax := [183, 0, 1, 4]) (by decide +kernel))
theorem e41_41 : mr41 S P 41 L st sh M c s = (mr41 S P 42 L (.int (nI 0) :: st) sh M c s) := propext (mv_R_iff (i := .iconst 0) (len := 1) (ax := []) (by decide +kernel))
theorem e41_42 : mr41 S P 42 L st sh M c s = (mr41 S P 44 L (.int (nI 6) :: st) sh M c s) := propext (mv_R_iff (i := .bipush 6) (len := 2) (ax := []) (by decide +kernel))
theorem e41_44 {n : Int32} {dp : Int32} {d : Nat} {sp : Int32} {a : Nat} : mr41 S P 44 L (.int n :: .int dp :: .ref d :: .int sp :: .ref a :: st) sh M c s = (mv_kcp sh M a sp d dp n (mr41 S P) 47 L st c s) := propext (mv_R_iff (i := .invokestatic 43) (len := 3) (ax := [10, 487, 313, 312, 116]) (by decide +kernel))
theorem e41_47 : mr41 S P 47 L st sh M c s = (q_isA (q_gv L 1) ∧ mr41 S P 48 L (q_gv L 1 :: st) sh M c s) := (propext (mv_R_iff (i := .aload_n 1) (len := 1) (ax := []) (by decide +kernel))).trans (q_ldA_eq (K := fun st => mr41 S P 48 L st sh M c s))
theorem e41_48 {a : Nat} : mr41 S P 48 L (.ref a :: st) sh M c s = (mv_kgf sh M a 1 5 (mr41 S P) 51 L st c s) := propext (mv_R_iff (i := .getfield 15) (len := 3) (ax := [184, 0, 1, 5]) (by decide +kernel))
theorem e41_51 : mr41 S P 51 L st sh M c s = (mr41 S P 52 L (.int (nI 0) :: st) sh M c s) := propext (mv_R_iff (i := .iconst 0) (len := 1) (ax := []) (by decide +kernel))
theorem e41_52 : mr41 S P 52 L st sh M c s = (q_isA (q_gv L 0) ∧ mr41 S P 53 L (q_gv L 0 :: st) sh M c s) := (propext (mv_R_iff (i := .aload_n 0) (len := 1) (ax := []) (by decide +kernel))).trans (q_ldA_eq (K := fun st => mr41 S P 53 L st sh M c s))
theorem e41_53 {a : Nat} : mr41 S P 53 L (.ref a :: st) sh M c s = (mv_kgf sh M a 1 5 (mr41 S P) 56 L st c s) := propext (mv_R_iff (i := .getfield 15) (len := 3) (ax := [184, 0, 1, 5]) (by decide +kernel))
theorem e41_56 : mr41 S P 56 L st sh M c s = (mr41 S P 57 L (.int (nI 0) :: st) sh M c s) := propext (mv_R_iff (i := .iconst 0) (len := 1) (ax := []) (by decide +kernel))
theorem e41_57 : mr41 S P 57 L st sh M c s = (mr41 S P 59 L (.int (nI 6) :: st) sh M c s) := propext (mv_R_iff (i := .bipush 6) (len := 2) (ax := []) (by decide +kernel))
theorem e41_59 {n : Int32} {dp : Int32} {d : Nat} {sp : Int32} {a : Nat} : mr41 S P 59 L (.int n :: .int dp :: .ref d :: .int sp :: .ref a :: st) sh M c s = (mv_kcp sh M a sp d dp n (mr41 S P) 62 L st c s) := propext (mv_R_iff (i := .invokestatic 43) (len := 3) (ax := [10, 487, 313, 312, 116]) (by decide +kernel))
theorem e41_62 : mr41 S P 62 L st sh M c s = (q_isA (q_gv L 1) ∧ mr41 S P 63 L (q_gv L 1 :: st) sh M c s) := (propext (mv_R_iff (i := .aload_n 1) (len := 1) (ax := []) (by decide +kernel))).trans (q_ldA_eq (K := fun st => mr41 S P 63 L st sh M c s))
theorem e41_63 {a : Nat} : mr41 S P 63 L (.ref a :: st) sh M c s = (mv_kgf sh M a 1 6 (mr41 S P) 66 L st c s) := propext (mv_R_iff (i := .getfield 18) (len := 3) (ax := [185, 0, 1, 6]) (by decide +kernel))
theorem e41_66 : mr41 S P 66 L st sh M c s = (mr41 S P 67 L (.int (nI 0) :: st) sh M c s) := propext (mv_R_iff (i := .iconst 0) (len := 1) (ax := []) (by decide +kernel))
theorem e41_67 : mr41 S P 67 L st sh M c s = (q_isA (q_gv L 0) ∧ mr41 S P 68 L (q_gv L 0 :: st) sh M c s) := (propext (mv_R_iff (i := .aload_n 0) (len := 1) (ax := []) (by decide +kernel))).trans (q_ldA_eq (K := fun st => mr41 S P 68 L st sh M c s))
theorem e41_68 {a : Nat} : mr41 S P 68 L (.ref a :: st) sh M c s = (mv_kgf sh M a 1 6 (mr41 S P) 71 L st c s) := propext (mv_R_iff (i := .getfield 18) (len := 3) (ax := [185, 0, 1, 6]) (by decide +kernel))
theorem e41_71 : mr41 S P 71 L st sh M c s = (mr41 S P 72 L (.int (nI 0) :: st) sh M c s) := propext (mv_R_iff (i := .iconst 0) (len := 1) (ax := []) (by decide +kernel))
theorem e41_72 : mr41 S P 72 L st sh M c s = (mr41 S P 74 L (.int (nI 24) :: st) sh M c s) := propext (mv_R_iff (i := .bipush 24) (len := 2) (ax := []) (by decide +kernel))
theorem e41_74 {n : Int32} {dp : Int32} {d : Nat} {sp : Int32} {a : Nat} : mr41 S P 74 L (.int n :: .int dp :: .ref d :: .int sp :: .ref a :: st) sh M c s = (mv_kcp sh M a sp d dp n (mr41 S P) 77 L st c s) := propext (mv_R_iff (i := .invokestatic 43) (len := 3) (ax := [10, 487, 313, 312, 116]) (by decide +kernel))
theorem e41_77 : mr41 S P 77 L st sh M c s = (q_isA (q_gv L 1) ∧ mr41 S P 78 L (q_gv L 1 :: st) sh M c s) := (propext (mv_R_iff (i := .aload_n 1) (len := 1) (ax := []) (by decide +kernel))).trans (q_ldA_eq (K := fun st => mr41 S P 78 L st sh M c s))
theorem e41_78 {a : Nat} : mr41 S P 78 L (.ref a :: st) sh M c s = (mv_kgf sh M a 1 7 (mr41 S P) 81 L st c s) := propext (mv_R_iff (i := .getfield 21) (len := 3) (ax := [186, 0, 1, 7]) (by decide +kernel))
theorem e41_81 : mr41 S P 81 L st sh M c s = (mr41 S P 82 L (.int (nI 0) :: st) sh M c s) := propext (mv_R_iff (i := .iconst 0) (len := 1) (ax := []) (by decide +kernel))
theorem e41_82 : mr41 S P 82 L st sh M c s = (q_isA (q_gv L 0) ∧ mr41 S P 83 L (q_gv L 0 :: st) sh M c s) := (propext (mv_R_iff (i := .aload_n 0) (len := 1) (ax := []) (by decide +kernel))).trans (q_ldA_eq (K := fun st => mr41 S P 83 L st sh M c s))
theorem e41_83 {a : Nat} : mr41 S P 83 L (.ref a :: st) sh M c s = (mv_kgf sh M a 1 7 (mr41 S P) 86 L st c s) := propext (mv_R_iff (i := .getfield 21) (len := 3) (ax := [186, 0, 1, 7]) (by decide +kernel))
theorem e41_86 : mr41 S P 86 L st sh M c s = (mr41 S P 87 L (.int (nI 0) :: st) sh M c s) := propext (mv_R_iff (i := .iconst 0) (len := 1) (ax := []) (by decide +kernel))
theorem e41_87 : mr41 S P 87 L st sh M c s = (mr41 S P 89 L (.int (nI 24) :: st) sh M c s) := propext (mv_R_iff (i := .bipush 24) (len := 2) (ax := []) (by decide +kernel))
theorem e41_89 {n : Int32} {dp : Int32} {d : Nat} {sp : Int32} {a : Nat} : mr41 S P 89 L (.int n :: .int dp :: .ref d :: .int sp :: .ref a :: st) sh M c s = (mv_kcp sh M a sp d dp n (mr41 S P) 92 L st c s) := propext (mv_R_iff (i := .invokestatic 43) (len := 3) (ax := [10, 487, 313, 312, 116]) (by decide +kernel))
theorem e41_92 : mr41 S P 92 L st sh M c s = (q_isA (q_gv L 1) ∧ mr41 S P 93 L (q_gv L 1 :: st) sh M c s) := (propext (mv_R_iff (i := .aload_n 1) (len := 1) (ax := []) (by decide +kernel))).trans (q_ldA_eq (K := fun st => mr41 S P 93 L st sh M c s))
theorem e41_93 {a : Nat} : mr41 S P 93 L (.ref a :: st) sh M c s = (mv_kgf sh M a 1 8 (mr41 S P) 96 L st c s) := propext (mv_R_iff (i := .getfield 24) (len := 3) (ax := [187, 0, 1, 8]) (by decide +kernel))
theorem e41_96 : mr41 S P 96 L st sh M c s = (mr41 S P 97 L (.int (nI 0) :: st) sh M c s) := propext (mv_R_iff (i := .iconst 0) (len := 1) (ax := []) (by decide +kernel))
theorem e41_97 : mr41 S P 97 L st sh M c s = (q_isA (q_gv L 0) ∧ mr41 S P 98 L (q_gv L 0 :: st) sh M c s) := (propext (mv_R_iff (i := .aload_n 0) (len := 1) (ax := []) (by decide +kernel))).trans (q_ldA_eq (K := fun st => mr41 S P 98 L st sh M c s))
theorem e41_98 {a : Nat} : mr41 S P 98 L (.ref a :: st) sh M c s = (mv_kgf sh M a 1 8 (mr41 S P) 101 L st c s) := propext (mv_R_iff (i := .getfield 24) (len := 3) (ax := [187, 0, 1, 8]) (by decide +kernel))
theorem e41_101 : mr41 S P 101 L st sh M c s = (mr41 S P 102 L (.int (nI 0) :: st) sh M c s) := propext (mv_R_iff (i := .iconst 0) (len := 1) (ax := []) (by decide +kernel))
theorem e41_102 : mr41 S P 102 L st sh M c s = (mr41 S P 104 L (.int (nI 6) :: st) sh M c s) := propext (mv_R_iff (i := .bipush 6) (len := 2) (ax := []) (by decide +kernel))
theorem e41_104 {n : Int32} {dp : Int32} {d : Nat} {sp : Int32} {a : Nat} : mr41 S P 104 L (.int n :: .int dp :: .ref d :: .int sp :: .ref a :: st) sh M c s = (mv_kcp sh M a sp d dp n (mr41 S P) 107 L st c s) := propext (mv_R_iff (i := .invokestatic 43) (len := 3) (ax := [10, 487, 313, 312, 116]) (by decide +kernel))
theorem e41_107 : mr41 S P 107 L st sh M c s = (q_isA (q_gv L 1) ∧ mr41 S P 108 L (q_gv L 1 :: st) sh M c s) := (propext (mv_R_iff (i := .aload_n 1) (len := 1) (ax := []) (by decide +kernel))).trans (q_ldA_eq (K := fun st => mr41 S P 108 L st sh M c s))
theorem e41_108 {a : Nat} : mr41 S P 108 L (.ref a :: st) sh M c s = (mv_kgf sh M a 1 9 (mr41 S P) 111 L st c s) := propext (mv_R_iff (i := .getfield 27) (len := 3) (ax := [188, 0, 1, 9]) (by decide +kernel))
theorem e41_111 : mr41 S P 111 L st sh M c s = (mr41 S P 112 L (.int (nI 0) :: st) sh M c s) := propext (mv_R_iff (i := .iconst 0) (len := 1) (ax := []) (by decide +kernel))
theorem e41_112 : mr41 S P 112 L st sh M c s = (q_isA (q_gv L 0) ∧ mr41 S P 113 L (q_gv L 0 :: st) sh M c s) := (propext (mv_R_iff (i := .aload_n 0) (len := 1) (ax := []) (by decide +kernel))).trans (q_ldA_eq (K := fun st => mr41 S P 113 L st sh M c s))
theorem e41_113 {a : Nat} : mr41 S P 113 L (.ref a :: st) sh M c s = (mv_kgf sh M a 1 9 (mr41 S P) 116 L st c s) := propext (mv_R_iff (i := .getfield 27) (len := 3) (ax := [188, 0, 1, 9]) (by decide +kernel))
theorem e41_116 : mr41 S P 116 L st sh M c s = (mr41 S P 117 L (.int (nI 0) :: st) sh M c s) := propext (mv_R_iff (i := .iconst 0) (len := 1) (ax := []) (by decide +kernel))
theorem e41_117 : mr41 S P 117 L st sh M c s = (mr41 S P 119 L (.int (nI 8) :: st) sh M c s) := propext (mv_R_iff (i := .bipush 8) (len := 2) (ax := []) (by decide +kernel))
theorem e41_119 {n : Int32} {dp : Int32} {d : Nat} {sp : Int32} {a : Nat} : mr41 S P 119 L (.int n :: .int dp :: .ref d :: .int sp :: .ref a :: st) sh M c s = (mv_kcp sh M a sp d dp n (mr41 S P) 122 L st c s) := propext (mv_R_iff (i := .invokestatic 43) (len := 3) (ax := [10, 487, 313, 312, 116]) (by decide +kernel))
theorem e41_122 : mr41 S P 122 L [] sh M c s = (P none sh M) := propext (mv_R_iff (i := .return_) (len := 1) (ax := []) (by decide +kernel))
-- 45: Cloth.start(LTurnedTablets$Loom;)V
def mk45 : mv_Cd := [
  (0, .aload_n 0, 1, []),
  (1, .getfield 11, 3, [236, 0, 0, 0]),
  (4, .iconst 0, 1, []),
  (5, .invokestatic 18, 3, [3, 42, 2, 0, 0, 0, 0, 492, 493, 115, 494]),
  (8, .iconst 0, 1, []),
  (9, .istore_n 2, 1, []),
  (10, .iload_n 2, 1, []),
  (11, .bipush 6, 2, []),
  (13, .if_icmp .ge 20, 3, [33]),
  (16, .aload_n 0, 1, []),
  (17, .iload_n 2, 1, []),
  (18, .iconst 3, 1, []),
  (19, .aload_n 1, 1, []),
  (20, .iload_n 2, 1, []),
  (21, .invokevirtual 24, 3, [1, 43, 2, 1, 0, 0, 495, 497, 18, 109, 498]),
  (24, .invokevirtual 30, 3, [0, 44, 4, 0, 0, 0, 0, 499, 501, 19, 111, 502]),
  (27, .iinc 2 1, 3, []),
  (30, .goto (-20), 3, [10]),
  (33, .aload_n 0, 1, []),
  (34, .iconst 0, 1, []),
  (35, .putfield 34, 3, [238, 0, 0, 2, 0]),
  (38, .return_, 1, [])]
def mr45 (S : Nat → mv_Sp) (P : mv_Post) : mv_Kt := mv_R mv_DF mk45 S (0, 0) P
theorem e45_0 : mr45 S P 0 L st sh M c s = (q_isA (q_gv L 0) ∧ mr45 S P 1 L (q_gv L 0 :: st) sh M c s) := (propext (mv_R_iff (i := .aload_n 0) (len := 1) (ax := []) (by decide +kernel))).trans (q_ldA_eq (K := fun st => mr45 S P 1 L st sh M c s))
theorem e45_1 {a : Nat} : mr45 S P 1 L (.ref a :: st) sh M c s = (mv_kgf sh M a 0 0 (mr45 S P) 4 L st c s) := propext (mv_R_iff (i := .getfield 11) (len := 3) (ax := [236, 0, 0, 0]) (by decide +kernel))
theorem e45_4 : mr45 S P 4 L st sh M c s = (mr45 S P 5 L (.int (nI 0) :: st) sh M c s) := propext (mv_R_iff (i := .iconst 0) (len := 1) (ax := []) (by decide +kernel))
theorem e45_5 {v2 : Value} {v1 : Value} : mr45 S P 5 L (v2 :: v1 :: st) sh M c s = (mv_ss st ≤ 8 ∧ c ≤ 0 ∧ s ≤ 0 ∧ True ∧ mv_kal S 42 [v1, v2] sh M (mr45 S P) 8 L st c s) := (propext (mv_R_iff (i := .invokestatic 18) (len := 3) (ax := [3, 42, 2, 0, 0, 0, 0, 492, 493, 115, 494]) (by decide +kernel))).trans (q_call3)
theorem e45_8 : mr45 S P 8 L st sh M c s = (mr45 S P 9 L (.int (nI 0) :: st) sh M c s) := propext (mv_R_iff (i := .iconst 0) (len := 1) (ax := []) (by decide +kernel))
theorem e45_9 {x : Int32} : mr45 S P 9 L (.int x :: st) sh M c s = (q_hs L 2 ∧ mr45 S P 10 (L.set 2 (some (.int x))) st sh M c s) := (propext (mv_R_iff (i := .istore_n 2) (len := 1) (ax := []) (by decide +kernel))).trans (q_st_eq (K := fun L => mr45 S P 10 L st sh M c s))
theorem e45_10 : mr45 S P 10 L st sh M c s = (q_isI (q_gv L 2) ∧ mr45 S P 11 L (q_gv L 2 :: st) sh M c s) := (propext (mv_R_iff (i := .iload_n 2) (len := 1) (ax := []) (by decide +kernel))).trans (q_ldI_eq (K := fun st => mr45 S P 11 L st sh M c s))
theorem e45_11 : mr45 S P 11 L st sh M c s = (mr45 S P 13 L (.int (nI 6) :: st) sh M c s) := propext (mv_R_iff (i := .bipush 6) (len := 2) (ax := []) (by decide +kernel))
theorem e45_13 {y : Int32} {x : Int32} : mr45 S P 13 L (.int y :: .int x :: st) sh M c s = (if y ≤ x then mr45 S P 33 L st sh M c s else mr45 S P 16 L st sh M c s) := (propext (mv_R_iff (i := .if_icmp .ge 20) (len := 3) (ax := [33]) (by decide +kernel))).trans (q_br)
theorem e45_16 : mr45 S P 16 L st sh M c s = (q_isA (q_gv L 0) ∧ mr45 S P 17 L (q_gv L 0 :: st) sh M c s) := (propext (mv_R_iff (i := .aload_n 0) (len := 1) (ax := []) (by decide +kernel))).trans (q_ldA_eq (K := fun st => mr45 S P 17 L st sh M c s))
theorem e45_17 : mr45 S P 17 L st sh M c s = (q_isI (q_gv L 2) ∧ mr45 S P 18 L (q_gv L 2 :: st) sh M c s) := (propext (mv_R_iff (i := .iload_n 2) (len := 1) (ax := []) (by decide +kernel))).trans (q_ldI_eq (K := fun st => mr45 S P 18 L st sh M c s))
theorem e45_18 : mr45 S P 18 L st sh M c s = (mr45 S P 19 L (.int (nI 3) :: st) sh M c s) := propext (mv_R_iff (i := .iconst 3) (len := 1) (ax := []) (by decide +kernel))
theorem e45_19 : mr45 S P 19 L st sh M c s = (q_isA (q_gv L 1) ∧ mr45 S P 20 L (q_gv L 1 :: st) sh M c s) := (propext (mv_R_iff (i := .aload_n 1) (len := 1) (ax := []) (by decide +kernel))).trans (q_ldA_eq (K := fun st => mr45 S P 20 L st sh M c s))
theorem e45_20 : mr45 S P 20 L st sh M c s = (q_isI (q_gv L 2) ∧ mr45 S P 21 L (q_gv L 2 :: st) sh M c s) := (propext (mv_R_iff (i := .iload_n 2) (len := 1) (ax := []) (by decide +kernel))).trans (q_ldI_eq (K := fun st => mr45 S P 21 L st sh M c s))
theorem e45_21 {v2 : Value} {v1 : Value} : mr45 S P 21 L (v2 :: v1 :: st) sh M c s = (mv_ss st ≤ 8 ∧ c ≤ 0 ∧ s ≤ 0 ∧ mv_isO sh (some v1) 1 ∧ mv_kal S 43 [v1, v2] sh M (mr45 S P) 24 L st c s) := (propext (mv_R_iff (i := .invokevirtual 24) (len := 3) (ax := [1, 43, 2, 1, 0, 0, 495, 497, 18, 109, 498]) (by decide +kernel))).trans (q_call1)
theorem e45_24 {v4 : Value} {v3 : Value} {v2 : Value} {v1 : Value} : mr45 S P 24 L (v4 :: v3 :: v2 :: v1 :: st) sh M c s = (mv_ss st ≤ 8 ∧ c ≤ 0 ∧ s ≤ 0 ∧ mv_isO sh (some v1) 0 ∧ mv_kal S 44 [v1, v2, v3, v4] sh M (mr45 S P) 27 L st c s) := (propext (mv_R_iff (i := .invokevirtual 30) (len := 3) (ax := [0, 44, 4, 0, 0, 0, 0, 499, 501, 19, 111, 502]) (by decide +kernel))).trans (q_call0)
theorem e45_27 : mr45 S P 27 L st sh M c s = ((q_isI (q_gv L 2) ∧ q_hs L 2) ∧ mr45 S P 30 (L.set 2 (some (q_inc (q_gv L 2) (nI 1)))) st sh M c s) := (propext (mv_R_iff (i := .iinc 2 1) (len := 3) (ax := []) (by decide +kernel))).trans (q_inc_eq (K := fun L => mr45 S P 30 L st sh M c s))
theorem e45_30 : mr45 S P 30 L st sh M c s = (mr45 S P 10 L st sh M c s) := propext (mv_R_iff (i := .goto (-20)) (len := 3) (ax := [10]) (by decide +kernel))
theorem e45_33 : mr45 S P 33 L st sh M c s = (q_isA (q_gv L 0) ∧ mr45 S P 34 L (q_gv L 0 :: st) sh M c s) := (propext (mv_R_iff (i := .aload_n 0) (len := 1) (ax := []) (by decide +kernel))).trans (q_ldA_eq (K := fun st => mr45 S P 34 L st sh M c s))
theorem e45_34 : mr45 S P 34 L st sh M c s = (mr45 S P 35 L (.int (nI 0) :: st) sh M c s) := propext (mv_R_iff (i := .iconst 0) (len := 1) (ax := []) (by decide +kernel))
theorem e45_35 {x : Int32} {a : Nat} : mr45 S P 35 L (.int x :: .ref a :: st) sh M c s = (True ∧ mv_kpf sh M a 0 2 x (mr45 S P) 38 L st c s) := propext (mv_R_iff (i := .putfield 34) (len := 3) (ax := [238, 0, 0, 2, 0]) (by decide +kernel))
theorem e45_38 : mr45 S P 38 L [] sh M c s = (P none sh M) := propext (mv_R_iff (i := .return_) (len := 1) (ax := []) (by decide +kernel))
-- 46: TurnedTablets.lay()I
def mk46 : mv_Cd := [
  (0, .aload_n 0, 1, []),
  (1, .getfield 28, 3, [525, 0, 4, 2]),
  (4, .invokevirtual 80, 3, [1, 40, 1, 2, 0, 0, 392, 394, 0, 110, 395]),
  (7, .bipush (-4), 2, []),
  (9, .if_icmp .ne 29, 3, [38]),
  (12, .aload_n 0, 1, []),
  (13, .getfield 28, 3, [525, 0, 4, 2]),
  (16, .getfield 83, 3, [221, 1, 2, 1]),
  (19, .getfield 86, 3, [168, 1, 1, 0]),
  (22, .ifCond .eq 16, 3, [38]),
  (25, .aload_n 0, 1, []),
  (26, .getfield 28, 3, [525, 0, 4, 2]),
  (29, .getfield 83, 3, [221, 1, 2, 1]),
  (32, .getfield 90, 3, [174, 1, 1, 1]),
  (35, .ifCond .ne 6, 3, [41]),
  (38, .bipush (-2), 2, []),
  (40, .ireturn, 1, [0]),
  (41, .aload_n 0, 1, []),
  (42, .getfield 19, 3, [524, 0, 4, 1]),
  (45, .aload_n 0, 1, []),
  (46, .getfield 28, 3, [525, 0, 4, 2]),
  (49, .getfield 83, 3, [221, 1, 2, 1]),
  (52, .invokevirtual 93, 3, [1, 41, 2, 1, 0, 0, 483, 485, 16, 109, 486]),
  (55, .aload_n 0, 1, []),
  (56, .getfield 35, 3, [526, 0, 4, 3]),
  (59, .aload_n 0, 1, []),
  (60, .getfield 19, 3, [524, 0, 4, 1]),
  (63, .invokevirtual 97, 3, [1, 45, 2, 0, 0, 0, 488, 490, 17, 111, 491]),
  (66, .aload_n 0, 1, []),
  (67, .iconst 0, 1, []),
  (68, .putfield 100, 3, [534, 0, 4, 11, 0]),
  (71, .aload_n 0, 1, []),
  (72, .iconst 0, 1, []),
  (73, .putfield 103, 3, [530, 0, 4, 7, 0]),
  (76, .aload_n 0, 1, []),
  (77, .iconst 0, 1, []),
  (78, .putfield 106, 3, [532, 0, 4, 9, 0]),
  (81, .aload_n 0, 1, []),
  (82, .getfield 19, 3, [524, 0, 4, 1]),
  (85, .getfield 86, 3, [168, 1, 1, 0]),
  (88, .ireturn, 1, [0])]
def mr46 (S : Nat → mv_Sp) (P : mv_Post) : mv_Kt := mv_R mv_DF mk46 S (0, 0) P
theorem e46_0 : mr46 S P 0 L st sh M c s = (q_isA (q_gv L 0) ∧ mr46 S P 1 L (q_gv L 0 :: st) sh M c s) := (propext (mv_R_iff (i := .aload_n 0) (len := 1) (ax := []) (by decide +kernel))).trans (q_ldA_eq (K := fun st => mr46 S P 1 L st sh M c s))
theorem e46_1 {a : Nat} : mr46 S P 1 L (.ref a :: st) sh M c s = (mv_kgf sh M a 4 2 (mr46 S P) 4 L st c s) := propext (mv_R_iff (i := .getfield 28) (len := 3) (ax := [525, 0, 4, 2]) (by decide +kernel))
theorem e46_4 {v1 : Value} : mr46 S P 4 L (v1 :: st) sh M c s = (mv_ss st ≤ 8 ∧ c ≤ 0 ∧ s ≤ 0 ∧ mv_isO sh (some v1) 2 ∧ mv_kal S 40 [v1] sh M (mr46 S P) 7 L st c s) := (propext (mv_R_iff (i := .invokevirtual 80) (len := 3) (ax := [1, 40, 1, 2, 0, 0, 392, 394, 0, 110, 395]) (by decide +kernel))).trans (q_call1)
theorem e46_7 : mr46 S P 7 L st sh M c s = (mr46 S P 9 L (.int (Int32.ofInt (-4)) :: st) sh M c s) := (propext (mv_R_iff (i := .bipush (-4)) (len := 2) (ax := []) (by decide +kernel))).trans (congrArg (fun z => mr46 S P 9 L (.int z :: st) sh M c s) (by decide : (Int8.ofInt (-4)).toInt32 = Int32.ofInt (-4)))
theorem e46_9 {y : Int32} {x : Int32} : mr46 S P 9 L (.int y :: .int x :: st) sh M c s = (if x = y then mr46 S P 12 L st sh M c s else mr46 S P 38 L st sh M c s) := (propext (mv_R_iff (i := .if_icmp .ne 29) (len := 3) (ax := [38]) (by decide +kernel))).trans (q_br')
theorem e46_12 : mr46 S P 12 L st sh M c s = (q_isA (q_gv L 0) ∧ mr46 S P 13 L (q_gv L 0 :: st) sh M c s) := (propext (mv_R_iff (i := .aload_n 0) (len := 1) (ax := []) (by decide +kernel))).trans (q_ldA_eq (K := fun st => mr46 S P 13 L st sh M c s))
theorem e46_13 {a : Nat} : mr46 S P 13 L (.ref a :: st) sh M c s = (mv_kgf sh M a 4 2 (mr46 S P) 16 L st c s) := propext (mv_R_iff (i := .getfield 28) (len := 3) (ax := [525, 0, 4, 2]) (by decide +kernel))
theorem e46_16 {a : Nat} : mr46 S P 16 L (.ref a :: st) sh M c s = (mv_kgf sh M a 2 1 (mr46 S P) 19 L st c s) := propext (mv_R_iff (i := .getfield 83) (len := 3) (ax := [221, 1, 2, 1]) (by decide +kernel))
theorem e46_19 {a : Nat} : mr46 S P 19 L (.ref a :: st) sh M c s = (mv_kgf sh M a 1 0 (mr46 S P) 22 L st c s) := propext (mv_R_iff (i := .getfield 86) (len := 3) (ax := [168, 1, 1, 0]) (by decide +kernel))
theorem e46_22 {x : Int32} : mr46 S P 22 L (.int x :: st) sh M c s = (if x = nI 0 then mr46 S P 38 L st sh M c s else mr46 S P 25 L st sh M c s) := (propext (mv_R_iff (i := .ifCond .eq 16) (len := 3) (ax := [38]) (by decide +kernel))).trans (q_br)
theorem e46_25 : mr46 S P 25 L st sh M c s = (q_isA (q_gv L 0) ∧ mr46 S P 26 L (q_gv L 0 :: st) sh M c s) := (propext (mv_R_iff (i := .aload_n 0) (len := 1) (ax := []) (by decide +kernel))).trans (q_ldA_eq (K := fun st => mr46 S P 26 L st sh M c s))
theorem e46_26 {a : Nat} : mr46 S P 26 L (.ref a :: st) sh M c s = (mv_kgf sh M a 4 2 (mr46 S P) 29 L st c s) := propext (mv_R_iff (i := .getfield 28) (len := 3) (ax := [525, 0, 4, 2]) (by decide +kernel))
theorem e46_29 {a : Nat} : mr46 S P 29 L (.ref a :: st) sh M c s = (mv_kgf sh M a 2 1 (mr46 S P) 32 L st c s) := propext (mv_R_iff (i := .getfield 83) (len := 3) (ax := [221, 1, 2, 1]) (by decide +kernel))
theorem e46_32 {a : Nat} : mr46 S P 32 L (.ref a :: st) sh M c s = (mv_kgf sh M a 1 1 (mr46 S P) 35 L st c s) := propext (mv_R_iff (i := .getfield 90) (len := 3) (ax := [174, 1, 1, 1]) (by decide +kernel))
theorem e46_35 {x : Int32} : mr46 S P 35 L (.int x :: st) sh M c s = (if x = nI 0 then mr46 S P 38 L st sh M c s else mr46 S P 41 L st sh M c s) := (propext (mv_R_iff (i := .ifCond .ne 6) (len := 3) (ax := [41]) (by decide +kernel))).trans (q_br')
theorem e46_38 : mr46 S P 38 L st sh M c s = (mr46 S P 40 L (.int (Int32.ofInt (-2)) :: st) sh M c s) := (propext (mv_R_iff (i := .bipush (-2)) (len := 2) (ax := []) (by decide +kernel))).trans (congrArg (fun z => mr46 S P 40 L (.int z :: st) sh M c s) (by decide : (Int8.ofInt (-2)).toInt32 = Int32.ofInt (-2)))
theorem e46_40 {x : Int32} : mr46 S P 40 L [.int x] sh M c s = (mv_nr 0 x ∧ P (some (.int x)) sh M) := propext (mv_R_iff (i := .ireturn) (len := 1) (ax := [0]) (by decide +kernel))
theorem e46_41 : mr46 S P 41 L st sh M c s = (q_isA (q_gv L 0) ∧ mr46 S P 42 L (q_gv L 0 :: st) sh M c s) := (propext (mv_R_iff (i := .aload_n 0) (len := 1) (ax := []) (by decide +kernel))).trans (q_ldA_eq (K := fun st => mr46 S P 42 L st sh M c s))
theorem e46_42 {a : Nat} : mr46 S P 42 L (.ref a :: st) sh M c s = (mv_kgf sh M a 4 1 (mr46 S P) 45 L st c s) := propext (mv_R_iff (i := .getfield 19) (len := 3) (ax := [524, 0, 4, 1]) (by decide +kernel))
theorem e46_45 : mr46 S P 45 L st sh M c s = (q_isA (q_gv L 0) ∧ mr46 S P 46 L (q_gv L 0 :: st) sh M c s) := (propext (mv_R_iff (i := .aload_n 0) (len := 1) (ax := []) (by decide +kernel))).trans (q_ldA_eq (K := fun st => mr46 S P 46 L st sh M c s))
theorem e46_46 {a : Nat} : mr46 S P 46 L (.ref a :: st) sh M c s = (mv_kgf sh M a 4 2 (mr46 S P) 49 L st c s) := propext (mv_R_iff (i := .getfield 28) (len := 3) (ax := [525, 0, 4, 2]) (by decide +kernel))
theorem e46_49 {a : Nat} : mr46 S P 49 L (.ref a :: st) sh M c s = (mv_kgf sh M a 2 1 (mr46 S P) 52 L st c s) := propext (mv_R_iff (i := .getfield 83) (len := 3) (ax := [221, 1, 2, 1]) (by decide +kernel))
theorem e46_52 {v2 : Value} {v1 : Value} : mr46 S P 52 L (v2 :: v1 :: st) sh M c s = (mv_ss st ≤ 8 ∧ c ≤ 0 ∧ s ≤ 0 ∧ mv_isO sh (some v1) 1 ∧ mv_kal S 41 [v1, v2] sh M (mr46 S P) 55 L st c s) := (propext (mv_R_iff (i := .invokevirtual 93) (len := 3) (ax := [1, 41, 2, 1, 0, 0, 483, 485, 16, 109, 486]) (by decide +kernel))).trans (q_call1)
theorem e46_55 : mr46 S P 55 L st sh M c s = (q_isA (q_gv L 0) ∧ mr46 S P 56 L (q_gv L 0 :: st) sh M c s) := (propext (mv_R_iff (i := .aload_n 0) (len := 1) (ax := []) (by decide +kernel))).trans (q_ldA_eq (K := fun st => mr46 S P 56 L st sh M c s))
theorem e46_56 {a : Nat} : mr46 S P 56 L (.ref a :: st) sh M c s = (mv_kgf sh M a 4 3 (mr46 S P) 59 L st c s) := propext (mv_R_iff (i := .getfield 35) (len := 3) (ax := [526, 0, 4, 3]) (by decide +kernel))
theorem e46_59 : mr46 S P 59 L st sh M c s = (q_isA (q_gv L 0) ∧ mr46 S P 60 L (q_gv L 0 :: st) sh M c s) := (propext (mv_R_iff (i := .aload_n 0) (len := 1) (ax := []) (by decide +kernel))).trans (q_ldA_eq (K := fun st => mr46 S P 60 L st sh M c s))
theorem e46_60 {a : Nat} : mr46 S P 60 L (.ref a :: st) sh M c s = (mv_kgf sh M a 4 1 (mr46 S P) 63 L st c s) := propext (mv_R_iff (i := .getfield 19) (len := 3) (ax := [524, 0, 4, 1]) (by decide +kernel))
theorem e46_63 {v2 : Value} {v1 : Value} : mr46 S P 63 L (v2 :: v1 :: st) sh M c s = (mv_ss st ≤ 8 ∧ c ≤ 0 ∧ s ≤ 0 ∧ mv_isO sh (some v1) 0 ∧ mv_kal S 45 [v1, v2] sh M (mr46 S P) 66 L st c s) := (propext (mv_R_iff (i := .invokevirtual 97) (len := 3) (ax := [1, 45, 2, 0, 0, 0, 488, 490, 17, 111, 491]) (by decide +kernel))).trans (q_call1)
theorem e46_66 : mr46 S P 66 L st sh M c s = (q_isA (q_gv L 0) ∧ mr46 S P 67 L (q_gv L 0 :: st) sh M c s) := (propext (mv_R_iff (i := .aload_n 0) (len := 1) (ax := []) (by decide +kernel))).trans (q_ldA_eq (K := fun st => mr46 S P 67 L st sh M c s))
theorem e46_67 : mr46 S P 67 L st sh M c s = (mr46 S P 68 L (.int (nI 0) :: st) sh M c s) := propext (mv_R_iff (i := .iconst 0) (len := 1) (ax := []) (by decide +kernel))
theorem e46_68 {x : Int32} {a : Nat} : mr46 S P 68 L (.int x :: .ref a :: st) sh M c s = (True ∧ mv_kpf sh M a 4 11 x (mr46 S P) 71 L st c s) := propext (mv_R_iff (i := .putfield 100) (len := 3) (ax := [534, 0, 4, 11, 0]) (by decide +kernel))
theorem e46_71 : mr46 S P 71 L st sh M c s = (q_isA (q_gv L 0) ∧ mr46 S P 72 L (q_gv L 0 :: st) sh M c s) := (propext (mv_R_iff (i := .aload_n 0) (len := 1) (ax := []) (by decide +kernel))).trans (q_ldA_eq (K := fun st => mr46 S P 72 L st sh M c s))
theorem e46_72 : mr46 S P 72 L st sh M c s = (mr46 S P 73 L (.int (nI 0) :: st) sh M c s) := propext (mv_R_iff (i := .iconst 0) (len := 1) (ax := []) (by decide +kernel))
theorem e46_73 {x : Int32} {a : Nat} : mr46 S P 73 L (.int x :: .ref a :: st) sh M c s = (True ∧ mv_kpf sh M a 4 7 x (mr46 S P) 76 L st c s) := propext (mv_R_iff (i := .putfield 103) (len := 3) (ax := [530, 0, 4, 7, 0]) (by decide +kernel))
theorem e46_76 : mr46 S P 76 L st sh M c s = (q_isA (q_gv L 0) ∧ mr46 S P 77 L (q_gv L 0 :: st) sh M c s) := (propext (mv_R_iff (i := .aload_n 0) (len := 1) (ax := []) (by decide +kernel))).trans (q_ldA_eq (K := fun st => mr46 S P 77 L st sh M c s))
theorem e46_77 : mr46 S P 77 L st sh M c s = (mr46 S P 78 L (.int (nI 0) :: st) sh M c s) := propext (mv_R_iff (i := .iconst 0) (len := 1) (ax := []) (by decide +kernel))
theorem e46_78 {x : Int32} {a : Nat} : mr46 S P 78 L (.int x :: .ref a :: st) sh M c s = (True ∧ mv_kpf sh M a 4 9 x (mr46 S P) 81 L st c s) := propext (mv_R_iff (i := .putfield 106) (len := 3) (ax := [532, 0, 4, 9, 0]) (by decide +kernel))
theorem e46_81 : mr46 S P 81 L st sh M c s = (q_isA (q_gv L 0) ∧ mr46 S P 82 L (q_gv L 0 :: st) sh M c s) := (propext (mv_R_iff (i := .aload_n 0) (len := 1) (ax := []) (by decide +kernel))).trans (q_ldA_eq (K := fun st => mr46 S P 82 L st sh M c s))
theorem e46_82 {a : Nat} : mr46 S P 82 L (.ref a :: st) sh M c s = (mv_kgf sh M a 4 1 (mr46 S P) 85 L st c s) := propext (mv_R_iff (i := .getfield 19) (len := 3) (ax := [524, 0, 4, 1]) (by decide +kernel))
theorem e46_85 {a : Nat} : mr46 S P 85 L (.ref a :: st) sh M c s = (mv_kgf sh M a 1 0 (mr46 S P) 88 L st c s) := propext (mv_R_iff (i := .getfield 86) (len := 3) (ax := [168, 1, 1, 0]) (by decide +kernel))
theorem e46_88 {x : Int32} : mr46 S P 88 L [.int x] sh M c s = (mv_nr 0 x ∧ P (some (.int x)) sh M) := propext (mv_R_iff (i := .ireturn) (len := 1) (ax := [0]) (by decide +kernel))
end CD
