/-! code lists and step rows, written by program -/
section CD
variable {S : Nat → mv_Sp} {P : mv_Post} {L : mv_Loc} {st : List Value} {sh : mv_Shp} {M : mv_Mem} {c s : Nat}
-- 83: Search.startList(II)V
def mk83 : mv_Cd := [
  (0, .aload_n 0, 1, []),
  (1, .getfield 15, 3, [255, 0, 3, 1]),
  (4, .iconst 0, 1, []),
  (5, .invokestatic 60, 3, [3, 42, 2, 0, 0, 0, 0, 813, 493, 115, 494]),
  (8, .aload_n 0, 1, []),
  (9, .iconst 0, 1, []),
  (10, .putfield 44, 3, [257, 0, 3, 3, 0]),
  (13, .aload_n 0, 1, []),
  (14, .iload_n 1, 1, []),
  (15, .iload_n 2, 1, []),
  (16, .invokevirtual 54, 3, [0, 82, 3, 3, 0, 0, 0, 814, 816, 48, 112, 817]),
  (19, .return_, 1, [])]
def mr83 (S : Nat → mv_Sp) (P : mv_Post) : mv_Kt := mv_R mv_DF mk83 S (0, 0) P
theorem e83_0 : mr83 S P 0 L st sh M c s = (q_isA (q_gv L 0) ∧ mr83 S P 1 L (q_gv L 0 :: st) sh M c s) := (propext (mv_R_iff (i := .aload_n 0) (len := 1) (ax := []) (by decide +kernel))).trans (q_ldA_eq (K := fun st => mr83 S P 1 L st sh M c s))
theorem e83_1 {a : Nat} : mr83 S P 1 L (.ref a :: st) sh M c s = (mv_kgf sh M a 3 1 (mr83 S P) 4 L st c s) := propext (mv_R_iff (i := .getfield 15) (len := 3) (ax := [255, 0, 3, 1]) (by decide +kernel))
theorem e83_4 : mr83 S P 4 L st sh M c s = (mr83 S P 5 L (.int (nI 0) :: st) sh M c s) := propext (mv_R_iff (i := .iconst 0) (len := 1) (ax := []) (by decide +kernel))
theorem e83_5 {v2 : Value} {v1 : Value} : mr83 S P 5 L (v2 :: v1 :: st) sh M c s = (mv_ss st ≤ 8 ∧ c ≤ 0 ∧ s ≤ 0 ∧ True ∧ mv_kal S 42 [v1, v2] sh M (mr83 S P) 8 L st c s) := (propext (mv_R_iff (i := .invokestatic 60) (len := 3) (ax := [3, 42, 2, 0, 0, 0, 0, 813, 493, 115, 494]) (by decide +kernel))).trans (q_call3)
theorem e83_8 : mr83 S P 8 L st sh M c s = (q_isA (q_gv L 0) ∧ mr83 S P 9 L (q_gv L 0 :: st) sh M c s) := (propext (mv_R_iff (i := .aload_n 0) (len := 1) (ax := []) (by decide +kernel))).trans (q_ldA_eq (K := fun st => mr83 S P 9 L st sh M c s))
theorem e83_9 : mr83 S P 9 L st sh M c s = (mr83 S P 10 L (.int (nI 0) :: st) sh M c s) := propext (mv_R_iff (i := .iconst 0) (len := 1) (ax := []) (by decide +kernel))
theorem e83_10 {x : Int32} {a : Nat} : mr83 S P 10 L (.int x :: .ref a :: st) sh M c s = (True ∧ mv_kpf sh M a 3 3 x (mr83 S P) 13 L st c s) := propext (mv_R_iff (i := .putfield 44) (len := 3) (ax := [257, 0, 3, 3, 0]) (by decide +kernel))
theorem e83_13 : mr83 S P 13 L st sh M c s = (q_isA (q_gv L 0) ∧ mr83 S P 14 L (q_gv L 0 :: st) sh M c s) := (propext (mv_R_iff (i := .aload_n 0) (len := 1) (ax := []) (by decide +kernel))).trans (q_ldA_eq (K := fun st => mr83 S P 14 L st sh M c s))
theorem e83_14 : mr83 S P 14 L st sh M c s = (q_isI (q_gv L 1) ∧ mr83 S P 15 L (q_gv L 1 :: st) sh M c s) := (propext (mv_R_iff (i := .iload_n 1) (len := 1) (ax := []) (by decide +kernel))).trans (q_ldI_eq (K := fun st => mr83 S P 15 L st sh M c s))
theorem e83_15 : mr83 S P 15 L st sh M c s = (q_isI (q_gv L 2) ∧ mr83 S P 16 L (q_gv L 2 :: st) sh M c s) := (propext (mv_R_iff (i := .iload_n 2) (len := 1) (ax := []) (by decide +kernel))).trans (q_ldI_eq (K := fun st => mr83 S P 16 L st sh M c s))
theorem e83_16 {v3 : Value} {v2 : Value} {v1 : Value} : mr83 S P 16 L (v3 :: v2 :: v1 :: st) sh M c s = (mv_ss st ≤ 8 ∧ c ≤ 0 ∧ s ≤ 0 ∧ mv_isO sh (some v1) 3 ∧ mv_kal S 82 [v1, v2, v3] sh M (mr83 S P) 19 L st c s) := (propext (mv_R_iff (i := .invokevirtual 54) (len := 3) (ax := [0, 82, 3, 3, 0, 0, 0, 814, 816, 48, 112, 817]) (by decide +kernel))).trans (q_call0)
theorem e83_19 : mr83 S P 19 L [] sh M c s = (P none sh M) := propext (mv_R_iff (i := .return_) (len := 1) (ax := []) (by decide +kernel))
-- 86: Search.spread(II)V
def mk86 : mv_Cd := [
  (0, .aload_n 0, 1, []),
  (1, .getfield 44, 3, [257, 0, 3, 3]),
  (4, .istore_n 3, 1, []),
  (5, .iload_n 2, 1, []),
  (6, .istore 4, 2, []),
  (8, .iconst 1, 1, []),
  (9, .istore 5, 2, []),
  (11, .iload 5, 2, []),
  (13, .iconst 4, 1, []),
  (14, .if_icmp .ge 70, 3, [84]),
  (17, .aload_n 0, 1, []),
  (18, .iload_n 1, 1, []),
  (19, .iload 4, 2, []),
  (21, .invokestatic 57, 3, [4, 51, 2, 0, 0, 0, 826, 778, 104, 779]),
  (24, .invokevirtual 66, 3, [0, 85, 2, 3, 0, 0, 0, 831, 833, 52, 112, 834]),
  (27, .ifCond .ne 57, 3, [84]),
  (30, .iconst 0, 1, []),
  (31, .istore 6, 2, []),
  (33, .iload 6, 2, []),
  (35, .iload_n 3, 1, []),
  (36, .if_icmp .ge 34, 3, [70]),
  (39, .iload 6, 2, []),
  (41, .sipush 4096, 3, []),
  (44, .if_icmp .ge 26, 3, [70]),
  (47, .aload_n 0, 1, []),
  (48, .aload_n 0, 1, []),
  (49, .getfield 9, 3, [254, 0, 3, 0]),
  (52, .iload 6, 2, []),
  (54, .iaload, 1, []),
  (55, .iload 4, 2, []),
  (57, .invokestatic 57, 3, [4, 51, 2, 0, 0, 0, 826, 778, 104, 779]),
  (60, .iconst (-1), 1, []),
  (61, .invokevirtual 54, 3, [0, 82, 3, 3, 0, 0, 0, 814, 816, 48, 112, 817]),
  (64, .iinc 6 1, 3, []),
  (67, .goto (-34), 3, [33]),
  (70, .iload 4, 2, []),
  (72, .iload_n 2, 1, []),
  (73, .invokestatic 57, 3, [4, 51, 2, 0, 0, 0, 826, 778, 104, 779]),
  (76, .istore 4, 2, []),
  (78, .iinc 5 1, 3, []),
  (81, .goto (-70), 3, [11]),
  (84, .return_, 1, [])]
def mr86 (S : Nat → mv_Sp) (P : mv_Post) : mv_Kt := mv_R mv_DF mk86 S (0, 0) P
theorem e86_0 : mr86 S P 0 L st sh M c s = (q_isA (q_gv L 0) ∧ mr86 S P 1 L (q_gv L 0 :: st) sh M c s) := (propext (mv_R_iff (i := .aload_n 0) (len := 1) (ax := []) (by decide +kernel))).trans (q_ldA_eq (K := fun st => mr86 S P 1 L st sh M c s))
theorem e86_1 {a : Nat} : mr86 S P 1 L (.ref a :: st) sh M c s = (mv_kgf sh M a 3 3 (mr86 S P) 4 L st c s) := propext (mv_R_iff (i := .getfield 44) (len := 3) (ax := [257, 0, 3, 3]) (by decide +kernel))
theorem e86_4 {x : Int32} : mr86 S P 4 L (.int x :: st) sh M c s = (q_hs L 3 ∧ mr86 S P 5 (L.set 3 (some (.int x))) st sh M c s) := (propext (mv_R_iff (i := .istore_n 3) (len := 1) (ax := []) (by decide +kernel))).trans (q_st_eq (K := fun L => mr86 S P 5 L st sh M c s))
theorem e86_5 : mr86 S P 5 L st sh M c s = (q_isI (q_gv L 2) ∧ mr86 S P 6 L (q_gv L 2 :: st) sh M c s) := (propext (mv_R_iff (i := .iload_n 2) (len := 1) (ax := []) (by decide +kernel))).trans (q_ldI_eq (K := fun st => mr86 S P 6 L st sh M c s))
theorem e86_6 {x : Int32} : mr86 S P 6 L (.int x :: st) sh M c s = (q_hs L 4 ∧ mr86 S P 8 (L.set 4 (some (.int x))) st sh M c s) := (propext (mv_R_iff (i := .istore 4) (len := 2) (ax := []) (by decide +kernel))).trans (q_st_eq (K := fun L => mr86 S P 8 L st sh M c s))
theorem e86_8 : mr86 S P 8 L st sh M c s = (mr86 S P 9 L (.int (nI 1) :: st) sh M c s) := propext (mv_R_iff (i := .iconst 1) (len := 1) (ax := []) (by decide +kernel))
theorem e86_9 {x : Int32} : mr86 S P 9 L (.int x :: st) sh M c s = (q_hs L 5 ∧ mr86 S P 11 (L.set 5 (some (.int x))) st sh M c s) := (propext (mv_R_iff (i := .istore 5) (len := 2) (ax := []) (by decide +kernel))).trans (q_st_eq (K := fun L => mr86 S P 11 L st sh M c s))
theorem e86_11 : mr86 S P 11 L st sh M c s = (q_isI (q_gv L 5) ∧ mr86 S P 13 L (q_gv L 5 :: st) sh M c s) := (propext (mv_R_iff (i := .iload 5) (len := 2) (ax := []) (by decide +kernel))).trans (q_ldI_eq (K := fun st => mr86 S P 13 L st sh M c s))
theorem e86_13 : mr86 S P 13 L st sh M c s = (mr86 S P 14 L (.int (nI 4) :: st) sh M c s) := propext (mv_R_iff (i := .iconst 4) (len := 1) (ax := []) (by decide +kernel))
theorem e86_14 {y : Int32} {x : Int32} : mr86 S P 14 L (.int y :: .int x :: st) sh M c s = (if y ≤ x then mr86 S P 84 L st sh M c s else mr86 S P 17 L st sh M c s) := (propext (mv_R_iff (i := .if_icmp .ge 70) (len := 3) (ax := [84]) (by decide +kernel))).trans (q_br)
theorem e86_17 : mr86 S P 17 L st sh M c s = (q_isA (q_gv L 0) ∧ mr86 S P 18 L (q_gv L 0 :: st) sh M c s) := (propext (mv_R_iff (i := .aload_n 0) (len := 1) (ax := []) (by decide +kernel))).trans (q_ldA_eq (K := fun st => mr86 S P 18 L st sh M c s))
theorem e86_18 : mr86 S P 18 L st sh M c s = (q_isI (q_gv L 1) ∧ mr86 S P 19 L (q_gv L 1 :: st) sh M c s) := (propext (mv_R_iff (i := .iload_n 1) (len := 1) (ax := []) (by decide +kernel))).trans (q_ldI_eq (K := fun st => mr86 S P 19 L st sh M c s))
theorem e86_19 : mr86 S P 19 L st sh M c s = (q_isI (q_gv L 4) ∧ mr86 S P 21 L (q_gv L 4 :: st) sh M c s) := (propext (mv_R_iff (i := .iload 4) (len := 2) (ax := []) (by decide +kernel))).trans (q_ldI_eq (K := fun st => mr86 S P 21 L st sh M c s))
theorem e86_21 {v2 : Value} {v1 : Value} : mr86 S P 21 L (v2 :: v1 :: st) sh M c s = (mv_ss st ≤ 8 ∧ c ≤ 0 ∧ s ≤ 0 ∧ True ∧ mv_kal S 51 [v1, v2] sh M (mr86 S P) 24 L st c s) := (propext (mv_R_iff (i := .invokestatic 57) (len := 3) (ax := [4, 51, 2, 0, 0, 0, 826, 778, 104, 779]) (by decide +kernel))).trans (q_call4)
theorem e86_24 {v2 : Value} {v1 : Value} : mr86 S P 24 L (v2 :: v1 :: st) sh M c s = (mv_ss st ≤ 8 ∧ c ≤ 0 ∧ s ≤ 0 ∧ mv_isO sh (some v1) 3 ∧ mv_kal S 85 [v1, v2] sh M (mr86 S P) 27 L st c s) := (propext (mv_R_iff (i := .invokevirtual 66) (len := 3) (ax := [0, 85, 2, 3, 0, 0, 0, 831, 833, 52, 112, 834]) (by decide +kernel))).trans (q_call0)
theorem e86_27 {x : Int32} : mr86 S P 27 L (.int x :: st) sh M c s = (if x = nI 0 then mr86 S P 30 L st sh M c s else mr86 S P 84 L st sh M c s) := (propext (mv_R_iff (i := .ifCond .ne 57) (len := 3) (ax := [84]) (by decide +kernel))).trans (q_br')
theorem e86_30 : mr86 S P 30 L st sh M c s = (mr86 S P 31 L (.int (nI 0) :: st) sh M c s) := propext (mv_R_iff (i := .iconst 0) (len := 1) (ax := []) (by decide +kernel))
theorem e86_31 {x : Int32} : mr86 S P 31 L (.int x :: st) sh M c s = (q_hs L 6 ∧ mr86 S P 33 (L.set 6 (some (.int x))) st sh M c s) := (propext (mv_R_iff (i := .istore 6) (len := 2) (ax := []) (by decide +kernel))).trans (q_st_eq (K := fun L => mr86 S P 33 L st sh M c s))
theorem e86_33 : mr86 S P 33 L st sh M c s = (q_isI (q_gv L 6) ∧ mr86 S P 35 L (q_gv L 6 :: st) sh M c s) := (propext (mv_R_iff (i := .iload 6) (len := 2) (ax := []) (by decide +kernel))).trans (q_ldI_eq (K := fun st => mr86 S P 35 L st sh M c s))
theorem e86_35 : mr86 S P 35 L st sh M c s = (q_isI (q_gv L 3) ∧ mr86 S P 36 L (q_gv L 3 :: st) sh M c s) := (propext (mv_R_iff (i := .iload_n 3) (len := 1) (ax := []) (by decide +kernel))).trans (q_ldI_eq (K := fun st => mr86 S P 36 L st sh M c s))
theorem e86_36 {y : Int32} {x : Int32} : mr86 S P 36 L (.int y :: .int x :: st) sh M c s = (if y ≤ x then mr86 S P 70 L st sh M c s else mr86 S P 39 L st sh M c s) := (propext (mv_R_iff (i := .if_icmp .ge 34) (len := 3) (ax := [70]) (by decide +kernel))).trans (q_br)
theorem e86_39 : mr86 S P 39 L st sh M c s = (q_isI (q_gv L 6) ∧ mr86 S P 41 L (q_gv L 6 :: st) sh M c s) := (propext (mv_R_iff (i := .iload 6) (len := 2) (ax := []) (by decide +kernel))).trans (q_ldI_eq (K := fun st => mr86 S P 41 L st sh M c s))
theorem e86_41 : mr86 S P 41 L st sh M c s = (mr86 S P 44 L (.int (nI 4096) :: st) sh M c s) := propext (mv_R_iff (i := .sipush 4096) (len := 3) (ax := []) (by decide +kernel))
theorem e86_44 {y : Int32} {x : Int32} : mr86 S P 44 L (.int y :: .int x :: st) sh M c s = (if y ≤ x then mr86 S P 70 L st sh M c s else mr86 S P 47 L st sh M c s) := (propext (mv_R_iff (i := .if_icmp .ge 26) (len := 3) (ax := [70]) (by decide +kernel))).trans (q_br)
theorem e86_47 : mr86 S P 47 L st sh M c s = (q_isA (q_gv L 0) ∧ mr86 S P 48 L (q_gv L 0 :: st) sh M c s) := (propext (mv_R_iff (i := .aload_n 0) (len := 1) (ax := []) (by decide +kernel))).trans (q_ldA_eq (K := fun st => mr86 S P 48 L st sh M c s))
theorem e86_48 : mr86 S P 48 L st sh M c s = (q_isA (q_gv L 0) ∧ mr86 S P 49 L (q_gv L 0 :: st) sh M c s) := (propext (mv_R_iff (i := .aload_n 0) (len := 1) (ax := []) (by decide +kernel))).trans (q_ldA_eq (K := fun st => mr86 S P 49 L st sh M c s))
theorem e86_49 {a : Nat} : mr86 S P 49 L (.ref a :: st) sh M c s = (mv_kgf sh M a 3 0 (mr86 S P) 52 L st c s) := propext (mv_R_iff (i := .getfield 9) (len := 3) (ax := [254, 0, 3, 0]) (by decide +kernel))
theorem e86_52 : mr86 S P 52 L st sh M c s = (q_isI (q_gv L 6) ∧ mr86 S P 54 L (q_gv L 6 :: st) sh M c s) := (propext (mv_R_iff (i := .iload 6) (len := 2) (ax := []) (by decide +kernel))).trans (q_ldI_eq (K := fun st => mr86 S P 54 L st sh M c s))
theorem e86_54 {i : Int32} {a : Nat} : mr86 S P 54 L (.int i :: .ref a :: st) sh M c s = (mv_kld sh M a i (mr86 S P) 55 L st c s) := propext (mv_R_iff (i := .iaload) (len := 1) (ax := []) (by decide +kernel))
theorem e86_55 : mr86 S P 55 L st sh M c s = (q_isI (q_gv L 4) ∧ mr86 S P 57 L (q_gv L 4 :: st) sh M c s) := (propext (mv_R_iff (i := .iload 4) (len := 2) (ax := []) (by decide +kernel))).trans (q_ldI_eq (K := fun st => mr86 S P 57 L st sh M c s))
theorem e86_57 {v2 : Value} {v1 : Value} : mr86 S P 57 L (v2 :: v1 :: st) sh M c s = (mv_ss st ≤ 8 ∧ c ≤ 0 ∧ s ≤ 0 ∧ True ∧ mv_kal S 51 [v1, v2] sh M (mr86 S P) 60 L st c s) := (propext (mv_R_iff (i := .invokestatic 57) (len := 3) (ax := [4, 51, 2, 0, 0, 0, 826, 778, 104, 779]) (by decide +kernel))).trans (q_call4)
theorem e86_60 : mr86 S P 60 L st sh M c s = (mr86 S P 61 L (.int (Int32.ofInt (-1)) :: st) sh M c s) := propext (mv_R_iff (i := .iconst (-1)) (len := 1) (ax := []) (by decide +kernel))
theorem e86_61 {v3 : Value} {v2 : Value} {v1 : Value} : mr86 S P 61 L (v3 :: v2 :: v1 :: st) sh M c s = (mv_ss st ≤ 8 ∧ c ≤ 0 ∧ s ≤ 0 ∧ mv_isO sh (some v1) 3 ∧ mv_kal S 82 [v1, v2, v3] sh M (mr86 S P) 64 L st c s) := (propext (mv_R_iff (i := .invokevirtual 54) (len := 3) (ax := [0, 82, 3, 3, 0, 0, 0, 814, 816, 48, 112, 817]) (by decide +kernel))).trans (q_call0)
theorem e86_64 : mr86 S P 64 L st sh M c s = ((q_isI (q_gv L 6) ∧ q_hs L 6) ∧ mr86 S P 67 (L.set 6 (some (q_inc (q_gv L 6) (nI 1)))) st sh M c s) := (propext (mv_R_iff (i := .iinc 6 1) (len := 3) (ax := []) (by decide +kernel))).trans (q_inc_eq (K := fun L => mr86 S P 67 L st sh M c s))
theorem e86_67 : mr86 S P 67 L st sh M c s = (mr86 S P 33 L st sh M c s) := propext (mv_R_iff (i := .goto (-34)) (len := 3) (ax := [33]) (by decide +kernel))
theorem e86_70 : mr86 S P 70 L st sh M c s = (q_isI (q_gv L 4) ∧ mr86 S P 72 L (q_gv L 4 :: st) sh M c s) := (propext (mv_R_iff (i := .iload 4) (len := 2) (ax := []) (by decide +kernel))).trans (q_ldI_eq (K := fun st => mr86 S P 72 L st sh M c s))
theorem e86_72 : mr86 S P 72 L st sh M c s = (q_isI (q_gv L 2) ∧ mr86 S P 73 L (q_gv L 2 :: st) sh M c s) := (propext (mv_R_iff (i := .iload_n 2) (len := 1) (ax := []) (by decide +kernel))).trans (q_ldI_eq (K := fun st => mr86 S P 73 L st sh M c s))
theorem e86_73 {v2 : Value} {v1 : Value} : mr86 S P 73 L (v2 :: v1 :: st) sh M c s = (mv_ss st ≤ 8 ∧ c ≤ 0 ∧ s ≤ 0 ∧ True ∧ mv_kal S 51 [v1, v2] sh M (mr86 S P) 76 L st c s) := (propext (mv_R_iff (i := .invokestatic 57) (len := 3) (ax := [4, 51, 2, 0, 0, 0, 826, 778, 104, 779]) (by decide +kernel))).trans (q_call4)
theorem e86_76 {x : Int32} : mr86 S P 76 L (.int x :: st) sh M c s = (q_hs L 4 ∧ mr86 S P 78 (L.set 4 (some (.int x))) st sh M c s) := (propext (mv_R_iff (i := .istore 4) (len := 2) (ax := []) (by decide +kernel))).trans (q_st_eq (K := fun L => mr86 S P 78 L st sh M c s))
theorem e86_78 : mr86 S P 78 L st sh M c s = ((q_isI (q_gv L 5) ∧ q_hs L 5) ∧ mr86 S P 81 (L.set 5 (some (q_inc (q_gv L 5) (nI 1)))) st sh M c s) := (propext (mv_R_iff (i := .iinc 5 1) (len := 3) (ax := []) (by decide +kernel))).trans (q_inc_eq (K := fun L => mr86 S P 81 L st sh M c s))
theorem e86_81 : mr86 S P 81 L st sh M c s = (mr86 S P 11 L st sh M c s) := propext (mv_R_iff (i := .goto (-70)) (len := 3) (ax := [11]) (by decide +kernel))
theorem e86_84 : mr86 S P 84 L [] sh M c s = (P none sh M) := propext (mv_R_iff (i := .return_) (len := 1) (ax := []) (by decide +kernel))
-- 87: Search.reach(LTurnedTablets$Loom;II)V
def mk87 : mv_Cd := [
  (0, .aload_n 0, 1, []),
  (1, .aload_n 1, 1, []),
  (2, .invokevirtual 36, 3, [0, 81, 2, 3, 0, 0, 0, 803, 805, 46, 112, 806]),
  (5, .istore 4, 2, []),
  (7, .aload_n 0, 1, []),
  (8, .iload_n 2, 1, []),
  (9, .iconst (-1), 1, []),
  (10, .invokevirtual 40, 3, [0, 83, 3, 3, 0, 0, 0, 809, 811, 47, 112, 812]),
  (13, .iconst 0, 1, []),
  (14, .istore 5, 2, []),
  (16, .iload 5, 2, []),
  (18, .iload 4, 2, []),
  (20, .if_icmp .ge 33, 3, [53]),
  (23, .iload_n 3, 1, []),
  (24, .iload 5, 2, []),
  (26, .iconst 2, 1, []),
  (27, .idiv, 1, []),
  (28, .ishr, 1, []),
  (29, .iconst 1, 1, []),
  (30, .iand, 1, []),
  (31, .iconst 1, 1, []),
  (32, .if_icmp .ne 15, 3, [47]),
  (35, .aload_n 0, 1, []),
  (36, .iload_n 2, 1, []),
  (37, .aload_n 0, 1, []),
  (38, .iconst 0, 1, []),
  (39, .iload 5, 2, []),
  (41, .invokevirtual 51, 3, [0, 84, 3, 3, 0, 0, 0, 822, 824, 50, 112, 825]),
  (44, .invokevirtual 73, 3, [0, 86, 3, 3, 0, 0, 0, 855, 857, 57, 112, 858]),
  (47, .iinc 5 1, 3, []),
  (50, .goto (-34), 3, [16]),
  (53, .return_, 1, [])]
def mr87 (S : Nat → mv_Sp) (P : mv_Post) : mv_Kt := mv_R mv_DF mk87 S (0, 0) P
theorem e87_0 : mr87 S P 0 L st sh M c s = (q_isA (q_gv L 0) ∧ mr87 S P 1 L (q_gv L 0 :: st) sh M c s) := (propext (mv_R_iff (i := .aload_n 0) (len := 1) (ax := []) (by decide +kernel))).trans (q_ldA_eq (K := fun st => mr87 S P 1 L st sh M c s))
theorem e87_1 : mr87 S P 1 L st sh M c s = (q_isA (q_gv L 1) ∧ mr87 S P 2 L (q_gv L 1 :: st) sh M c s) := (propext (mv_R_iff (i := .aload_n 1) (len := 1) (ax := []) (by decide +kernel))).trans (q_ldA_eq (K := fun st => mr87 S P 2 L st sh M c s))
theorem e87_2 {v2 : Value} {v1 : Value} : mr87 S P 2 L (v2 :: v1 :: st) sh M c s = (mv_ss st ≤ 8 ∧ c ≤ 0 ∧ s ≤ 0 ∧ mv_isO sh (some v1) 3 ∧ mv_kal S 81 [v1, v2] sh M (mr87 S P) 5 L st c s) := (propext (mv_R_iff (i := .invokevirtual 36) (len := 3) (ax := [0, 81, 2, 3, 0, 0, 0, 803, 805, 46, 112, 806]) (by decide +kernel))).trans (q_call0)
theorem e87_5 {x : Int32} : mr87 S P 5 L (.int x :: st) sh M c s = (q_hs L 4 ∧ mr87 S P 7 (L.set 4 (some (.int x))) st sh M c s) := (propext (mv_R_iff (i := .istore 4) (len := 2) (ax := []) (by decide +kernel))).trans (q_st_eq (K := fun L => mr87 S P 7 L st sh M c s))
theorem e87_7 : mr87 S P 7 L st sh M c s = (q_isA (q_gv L 0) ∧ mr87 S P 8 L (q_gv L 0 :: st) sh M c s) := (propext (mv_R_iff (i := .aload_n 0) (len := 1) (ax := []) (by decide +kernel))).trans (q_ldA_eq (K := fun st => mr87 S P 8 L st sh M c s))
theorem e87_8 : mr87 S P 8 L st sh M c s = (q_isI (q_gv L 2) ∧ mr87 S P 9 L (q_gv L 2 :: st) sh M c s) := (propext (mv_R_iff (i := .iload_n 2) (len := 1) (ax := []) (by decide +kernel))).trans (q_ldI_eq (K := fun st => mr87 S P 9 L st sh M c s))
theorem e87_9 : mr87 S P 9 L st sh M c s = (mr87 S P 10 L (.int (Int32.ofInt (-1)) :: st) sh M c s) := propext (mv_R_iff (i := .iconst (-1)) (len := 1) (ax := []) (by decide +kernel))
theorem e87_10 {v3 : Value} {v2 : Value} {v1 : Value} : mr87 S P 10 L (v3 :: v2 :: v1 :: st) sh M c s = (mv_ss st ≤ 8 ∧ c ≤ 0 ∧ s ≤ 0 ∧ mv_isO sh (some v1) 3 ∧ mv_kal S 83 [v1, v2, v3] sh M (mr87 S P) 13 L st c s) := (propext (mv_R_iff (i := .invokevirtual 40) (len := 3) (ax := [0, 83, 3, 3, 0, 0, 0, 809, 811, 47, 112, 812]) (by decide +kernel))).trans (q_call0)
theorem e87_13 : mr87 S P 13 L st sh M c s = (mr87 S P 14 L (.int (nI 0) :: st) sh M c s) := propext (mv_R_iff (i := .iconst 0) (len := 1) (ax := []) (by decide +kernel))
theorem e87_14 {x : Int32} : mr87 S P 14 L (.int x :: st) sh M c s = (q_hs L 5 ∧ mr87 S P 16 (L.set 5 (some (.int x))) st sh M c s) := (propext (mv_R_iff (i := .istore 5) (len := 2) (ax := []) (by decide +kernel))).trans (q_st_eq (K := fun L => mr87 S P 16 L st sh M c s))
theorem e87_16 : mr87 S P 16 L st sh M c s = (q_isI (q_gv L 5) ∧ mr87 S P 18 L (q_gv L 5 :: st) sh M c s) := (propext (mv_R_iff (i := .iload 5) (len := 2) (ax := []) (by decide +kernel))).trans (q_ldI_eq (K := fun st => mr87 S P 18 L st sh M c s))
theorem e87_18 : mr87 S P 18 L st sh M c s = (q_isI (q_gv L 4) ∧ mr87 S P 20 L (q_gv L 4 :: st) sh M c s) := (propext (mv_R_iff (i := .iload 4) (len := 2) (ax := []) (by decide +kernel))).trans (q_ldI_eq (K := fun st => mr87 S P 20 L st sh M c s))
theorem e87_20 {y : Int32} {x : Int32} : mr87 S P 20 L (.int y :: .int x :: st) sh M c s = (if y ≤ x then mr87 S P 53 L st sh M c s else mr87 S P 23 L st sh M c s) := (propext (mv_R_iff (i := .if_icmp .ge 33) (len := 3) (ax := [53]) (by decide +kernel))).trans (q_br)
theorem e87_23 : mr87 S P 23 L st sh M c s = (q_isI (q_gv L 3) ∧ mr87 S P 24 L (q_gv L 3 :: st) sh M c s) := (propext (mv_R_iff (i := .iload_n 3) (len := 1) (ax := []) (by decide +kernel))).trans (q_ldI_eq (K := fun st => mr87 S P 24 L st sh M c s))
theorem e87_24 : mr87 S P 24 L st sh M c s = (q_isI (q_gv L 5) ∧ mr87 S P 26 L (q_gv L 5 :: st) sh M c s) := (propext (mv_R_iff (i := .iload 5) (len := 2) (ax := []) (by decide +kernel))).trans (q_ldI_eq (K := fun st => mr87 S P 26 L st sh M c s))
theorem e87_26 : mr87 S P 26 L st sh M c s = (mr87 S P 27 L (.int (nI 2) :: st) sh M c s) := propext (mv_R_iff (i := .iconst 2) (len := 1) (ax := []) (by decide +kernel))
theorem e87_27 {y : Int32} {x : Int32} : mr87 S P 27 L (.int y :: .int x :: st) sh M c s = (¬ y = nI 0 ∧ mr87 S P 28 L (.int (x / y) :: st) sh M c s) := propext (mv_R_iff (i := .idiv) (len := 1) (ax := []) (by decide +kernel))
theorem e87_28 {y : Int32} {x : Int32} : mr87 S P 28 L (.int y :: .int x :: st) sh M c s = (mr87 S P 29 L (.int (x >>> (y &&& 31)) :: st) sh M c s) := propext (mv_R_iff (i := .ishr) (len := 1) (ax := []) (by decide +kernel))
theorem e87_29 : mr87 S P 29 L st sh M c s = (mr87 S P 30 L (.int (nI 1) :: st) sh M c s) := propext (mv_R_iff (i := .iconst 1) (len := 1) (ax := []) (by decide +kernel))
theorem e87_30 {y : Int32} {x : Int32} : mr87 S P 30 L (.int y :: .int x :: st) sh M c s = (mr87 S P 31 L (.int (x &&& y) :: st) sh M c s) := propext (mv_R_iff (i := .iand) (len := 1) (ax := []) (by decide +kernel))
theorem e87_31 : mr87 S P 31 L st sh M c s = (mr87 S P 32 L (.int (nI 1) :: st) sh M c s) := propext (mv_R_iff (i := .iconst 1) (len := 1) (ax := []) (by decide +kernel))
theorem e87_32 {y : Int32} {x : Int32} : mr87 S P 32 L (.int y :: .int x :: st) sh M c s = (if x = y then mr87 S P 35 L st sh M c s else mr87 S P 47 L st sh M c s) := (propext (mv_R_iff (i := .if_icmp .ne 15) (len := 3) (ax := [47]) (by decide +kernel))).trans (q_br')
theorem e87_35 : mr87 S P 35 L st sh M c s = (q_isA (q_gv L 0) ∧ mr87 S P 36 L (q_gv L 0 :: st) sh M c s) := (propext (mv_R_iff (i := .aload_n 0) (len := 1) (ax := []) (by decide +kernel))).trans (q_ldA_eq (K := fun st => mr87 S P 36 L st sh M c s))
theorem e87_36 : mr87 S P 36 L st sh M c s = (q_isI (q_gv L 2) ∧ mr87 S P 37 L (q_gv L 2 :: st) sh M c s) := (propext (mv_R_iff (i := .iload_n 2) (len := 1) (ax := []) (by decide +kernel))).trans (q_ldI_eq (K := fun st => mr87 S P 37 L st sh M c s))
theorem e87_37 : mr87 S P 37 L st sh M c s = (q_isA (q_gv L 0) ∧ mr87 S P 38 L (q_gv L 0 :: st) sh M c s) := (propext (mv_R_iff (i := .aload_n 0) (len := 1) (ax := []) (by decide +kernel))).trans (q_ldA_eq (K := fun st => mr87 S P 38 L st sh M c s))
theorem e87_38 : mr87 S P 38 L st sh M c s = (mr87 S P 39 L (.int (nI 0) :: st) sh M c s) := propext (mv_R_iff (i := .iconst 0) (len := 1) (ax := []) (by decide +kernel))
theorem e87_39 : mr87 S P 39 L st sh M c s = (q_isI (q_gv L 5) ∧ mr87 S P 41 L (q_gv L 5 :: st) sh M c s) := (propext (mv_R_iff (i := .iload 5) (len := 2) (ax := []) (by decide +kernel))).trans (q_ldI_eq (K := fun st => mr87 S P 41 L st sh M c s))
theorem e87_41 {v3 : Value} {v2 : Value} {v1 : Value} : mr87 S P 41 L (v3 :: v2 :: v1 :: st) sh M c s = (mv_ss st ≤ 8 ∧ c ≤ 0 ∧ s ≤ 0 ∧ mv_isO sh (some v1) 3 ∧ mv_kal S 84 [v1, v2, v3] sh M (mr87 S P) 44 L st c s) := (propext (mv_R_iff (i := .invokevirtual 51) (len := 3) (ax := [0, 84, 3, 3, 0, 0, 0, 822, 824, 50, 112, 825]) (by decide +kernel))).trans (q_call0)
theorem e87_44 {v3 : Value} {v2 : Value} {v1 : Value} : mr87 S P 44 L (v3 :: v2 :: v1 :: st) sh M c s = (mv_ss st ≤ 8 ∧ c ≤ 0 ∧ s ≤ 0 ∧ mv_isO sh (some v1) 3 ∧ mv_kal S 86 [v1, v2, v3] sh M (mr87 S P) 47 L st c s) := (propext (mv_R_iff (i := .invokevirtual 73) (len := 3) (ax := [0, 86, 3, 3, 0, 0, 0, 855, 857, 57, 112, 858]) (by decide +kernel))).trans (q_call0)
theorem e87_47 : mr87 S P 47 L st sh M c s = ((q_isI (q_gv L 5) ∧ q_hs L 5) ∧ mr87 S P 50 (L.set 5 (some (q_inc (q_gv L 5) (nI 1)))) st sh M c s) := (propext (mv_R_iff (i := .iinc 5 1) (len := 3) (ax := []) (by decide +kernel))).trans (q_inc_eq (K := fun L => mr87 S P 50 L st sh M c s))
theorem e87_50 : mr87 S P 50 L st sh M c s = (mr87 S P 16 L st sh M c s) := propext (mv_R_iff (i := .goto (-34)) (len := 3) (ax := [16]) (by decide +kernel))
theorem e87_53 : mr87 S P 53 L [] sh M c s = (P none sh M) := propext (mv_R_iff (i := .return_) (len := 1) (ax := []) (by decide +kernel))
-- 89: Search.countRows(LTurnedTablets$Loom;)I
def mk89 : mv_Cd := [
  (0, .aload_n 0, 1, []),
  (1, .getfield 15, 3, [255, 0, 3, 1]),
  (4, .iconst 0, 1, []),
  (5, .invokestatic 60, 3, [3, 42, 2, 0, 0, 0, 0, 813, 493, 115, 494]),
  (8, .aload_n 0, 1, []),
  (9, .getfield 44, 3, [257, 0, 3, 3]),
  (12, .istore_n 2, 1, []),
  (13, .aload_n 0, 1, []),
  (14, .iconst 0, 1, []),
  (15, .putfield 44, 3, [257, 0, 3, 3, 0]),
  (18, .iconst 0, 1, []),
  (19, .istore_n 3, 1, []),
  (20, .iload_n 3, 1, []),
  (21, .iload_n 2, 1, []),
  (22, .if_icmp .ge 31, 3, [53]),
  (25, .iload_n 3, 1, []),
  (26, .sipush 4096, 3, []),
  (29, .if_icmp .ge 24, 3, [53]),
  (32, .aload_n 0, 1, []),
  (33, .aload_n 1, 1, []),
  (34, .aload_n 0, 1, []),
  (35, .getfield 9, 3, [254, 0, 3, 0]),
  (38, .iload_n 3, 1, []),
  (39, .iaload, 1, []),
  (40, .invokevirtual 80, 3, [1, 88, 2, 1, 0, 0, 863, 865, 59, 109, 866]),
  (43, .iconst (-1), 1, []),
  (44, .invokevirtual 54, 3, [0, 82, 3, 3, 0, 0, 0, 814, 816, 48, 112, 817]),
  (47, .iinc 3 1, 3, []),
  (50, .goto (-30), 3, [20]),
  (53, .aload_n 0, 1, []),
  (54, .getfield 44, 3, [257, 0, 3, 3]),
  (57, .ireturn, 1, [0])]
def mr89 (S : Nat → mv_Sp) (P : mv_Post) : mv_Kt := mv_R mv_DF mk89 S (0, 0) P
theorem e89_0 : mr89 S P 0 L st sh M c s = (q_isA (q_gv L 0) ∧ mr89 S P 1 L (q_gv L 0 :: st) sh M c s) := (propext (mv_R_iff (i := .aload_n 0) (len := 1) (ax := []) (by decide +kernel))).trans (q_ldA_eq (K := fun st => mr89 S P 1 L st sh M c s))
theorem e89_1 {a : Nat} : mr89 S P 1 L (.ref a :: st) sh M c s = (mv_kgf sh M a 3 1 (mr89 S P) 4 L st c s) := propext (mv_R_iff (i := .getfield 15) (len := 3) (ax := [255, 0, 3, 1]) (by decide +kernel))
theorem e89_4 : mr89 S P 4 L st sh M c s = (mr89 S P 5 L (.int (nI 0) :: st) sh M c s) := propext (mv_R_iff (i := .iconst 0) (len := 1) (ax := []) (by decide +kernel))
theorem e89_5 {v2 : Value} {v1 : Value} : mr89 S P 5 L (v2 :: v1 :: st) sh M c s = (mv_ss st ≤ 8 ∧ c ≤ 0 ∧ s ≤ 0 ∧ True ∧ mv_kal S 42 [v1, v2] sh M (mr89 S P) 8 L st c s) := (propext (mv_R_iff (i := .invokestatic 60) (len := 3) (ax := [3, 42, 2, 0, 0, 0, 0, 813, 493, 115, 494]) (by decide +kernel))).trans (q_call3)
theorem e89_8 : mr89 S P 8 L st sh M c s = (q_isA (q_gv L 0) ∧ mr89 S P 9 L (q_gv L 0 :: st) sh M c s) := (propext (mv_R_iff (i := .aload_n 0) (len := 1) (ax := []) (by decide +kernel))).trans (q_ldA_eq (K := fun st => mr89 S P 9 L st sh M c s))
theorem e89_9 {a : Nat} : mr89 S P 9 L (.ref a :: st) sh M c s = (mv_kgf sh M a 3 3 (mr89 S P) 12 L st c s) := propext (mv_R_iff (i := .getfield 44) (len := 3) (ax := [257, 0, 3, 3]) (by decide +kernel))
theorem e89_12 {x : Int32} : mr89 S P 12 L (.int x :: st) sh M c s = (q_hs L 2 ∧ mr89 S P 13 (L.set 2 (some (.int x))) st sh M c s) := (propext (mv_R_iff (i := .istore_n 2) (len := 1) (ax := []) (by decide +kernel))).trans (q_st_eq (K := fun L => mr89 S P 13 L st sh M c s))
theorem e89_13 : mr89 S P 13 L st sh M c s = (q_isA (q_gv L 0) ∧ mr89 S P 14 L (q_gv L 0 :: st) sh M c s) := (propext (mv_R_iff (i := .aload_n 0) (len := 1) (ax := []) (by decide +kernel))).trans (q_ldA_eq (K := fun st => mr89 S P 14 L st sh M c s))
theorem e89_14 : mr89 S P 14 L st sh M c s = (mr89 S P 15 L (.int (nI 0) :: st) sh M c s) := propext (mv_R_iff (i := .iconst 0) (len := 1) (ax := []) (by decide +kernel))
theorem e89_15 {x : Int32} {a : Nat} : mr89 S P 15 L (.int x :: .ref a :: st) sh M c s = (True ∧ mv_kpf sh M a 3 3 x (mr89 S P) 18 L st c s) := propext (mv_R_iff (i := .putfield 44) (len := 3) (ax := [257, 0, 3, 3, 0]) (by decide +kernel))
theorem e89_18 : mr89 S P 18 L st sh M c s = (mr89 S P 19 L (.int (nI 0) :: st) sh M c s) := propext (mv_R_iff (i := .iconst 0) (len := 1) (ax := []) (by decide +kernel))
theorem e89_19 {x : Int32} : mr89 S P 19 L (.int x :: st) sh M c s = (q_hs L 3 ∧ mr89 S P 20 (L.set 3 (some (.int x))) st sh M c s) := (propext (mv_R_iff (i := .istore_n 3) (len := 1) (ax := []) (by decide +kernel))).trans (q_st_eq (K := fun L => mr89 S P 20 L st sh M c s))
theorem e89_20 : mr89 S P 20 L st sh M c s = (q_isI (q_gv L 3) ∧ mr89 S P 21 L (q_gv L 3 :: st) sh M c s) := (propext (mv_R_iff (i := .iload_n 3) (len := 1) (ax := []) (by decide +kernel))).trans (q_ldI_eq (K := fun st => mr89 S P 21 L st sh M c s))
theorem e89_21 : mr89 S P 21 L st sh M c s = (q_isI (q_gv L 2) ∧ mr89 S P 22 L (q_gv L 2 :: st) sh M c s) := (propext (mv_R_iff (i := .iload_n 2) (len := 1) (ax := []) (by decide +kernel))).trans (q_ldI_eq (K := fun st => mr89 S P 22 L st sh M c s))
theorem e89_22 {y : Int32} {x : Int32} : mr89 S P 22 L (.int y :: .int x :: st) sh M c s = (if y ≤ x then mr89 S P 53 L st sh M c s else mr89 S P 25 L st sh M c s) := (propext (mv_R_iff (i := .if_icmp .ge 31) (len := 3) (ax := [53]) (by decide +kernel))).trans (q_br)
theorem e89_25 : mr89 S P 25 L st sh M c s = (q_isI (q_gv L 3) ∧ mr89 S P 26 L (q_gv L 3 :: st) sh M c s) := (propext (mv_R_iff (i := .iload_n 3) (len := 1) (ax := []) (by decide +kernel))).trans (q_ldI_eq (K := fun st => mr89 S P 26 L st sh M c s))
theorem e89_26 : mr89 S P 26 L st sh M c s = (mr89 S P 29 L (.int (nI 4096) :: st) sh M c s) := propext (mv_R_iff (i := .sipush 4096) (len := 3) (ax := []) (by decide +kernel))
theorem e89_29 {y : Int32} {x : Int32} : mr89 S P 29 L (.int y :: .int x :: st) sh M c s = (if y ≤ x then mr89 S P 53 L st sh M c s else mr89 S P 32 L st sh M c s) := (propext (mv_R_iff (i := .if_icmp .ge 24) (len := 3) (ax := [53]) (by decide +kernel))).trans (q_br)
theorem e89_32 : mr89 S P 32 L st sh M c s = (q_isA (q_gv L 0) ∧ mr89 S P 33 L (q_gv L 0 :: st) sh M c s) := (propext (mv_R_iff (i := .aload_n 0) (len := 1) (ax := []) (by decide +kernel))).trans (q_ldA_eq (K := fun st => mr89 S P 33 L st sh M c s))
theorem e89_33 : mr89 S P 33 L st sh M c s = (q_isA (q_gv L 1) ∧ mr89 S P 34 L (q_gv L 1 :: st) sh M c s) := (propext (mv_R_iff (i := .aload_n 1) (len := 1) (ax := []) (by decide +kernel))).trans (q_ldA_eq (K := fun st => mr89 S P 34 L st sh M c s))
theorem e89_34 : mr89 S P 34 L st sh M c s = (q_isA (q_gv L 0) ∧ mr89 S P 35 L (q_gv L 0 :: st) sh M c s) := (propext (mv_R_iff (i := .aload_n 0) (len := 1) (ax := []) (by decide +kernel))).trans (q_ldA_eq (K := fun st => mr89 S P 35 L st sh M c s))
theorem e89_35 {a : Nat} : mr89 S P 35 L (.ref a :: st) sh M c s = (mv_kgf sh M a 3 0 (mr89 S P) 38 L st c s) := propext (mv_R_iff (i := .getfield 9) (len := 3) (ax := [254, 0, 3, 0]) (by decide +kernel))
theorem e89_38 : mr89 S P 38 L st sh M c s = (q_isI (q_gv L 3) ∧ mr89 S P 39 L (q_gv L 3 :: st) sh M c s) := (propext (mv_R_iff (i := .iload_n 3) (len := 1) (ax := []) (by decide +kernel))).trans (q_ldI_eq (K := fun st => mr89 S P 39 L st sh M c s))
theorem e89_39 {i : Int32} {a : Nat} : mr89 S P 39 L (.int i :: .ref a :: st) sh M c s = (mv_kld sh M a i (mr89 S P) 40 L st c s) := propext (mv_R_iff (i := .iaload) (len := 1) (ax := []) (by decide +kernel))
theorem e89_40 {v2 : Value} {v1 : Value} : mr89 S P 40 L (v2 :: v1 :: st) sh M c s = (mv_ss st ≤ 8 ∧ c ≤ 0 ∧ s ≤ 0 ∧ mv_isO sh (some v1) 1 ∧ mv_kal S 88 [v1, v2] sh M (mr89 S P) 43 L st c s) := (propext (mv_R_iff (i := .invokevirtual 80) (len := 3) (ax := [1, 88, 2, 1, 0, 0, 863, 865, 59, 109, 866]) (by decide +kernel))).trans (q_call1)
theorem e89_43 : mr89 S P 43 L st sh M c s = (mr89 S P 44 L (.int (Int32.ofInt (-1)) :: st) sh M c s) := propext (mv_R_iff (i := .iconst (-1)) (len := 1) (ax := []) (by decide +kernel))
theorem e89_44 {v3 : Value} {v2 : Value} {v1 : Value} : mr89 S P 44 L (v3 :: v2 :: v1 :: st) sh M c s = (mv_ss st ≤ 8 ∧ c ≤ 0 ∧ s ≤ 0 ∧ mv_isO sh (some v1) 3 ∧ mv_kal S 82 [v1, v2, v3] sh M (mr89 S P) 47 L st c s) := (propext (mv_R_iff (i := .invokevirtual 54) (len := 3) (ax := [0, 82, 3, 3, 0, 0, 0, 814, 816, 48, 112, 817]) (by decide +kernel))).trans (q_call0)
theorem e89_47 : mr89 S P 47 L st sh M c s = ((q_isI (q_gv L 3) ∧ q_hs L 3) ∧ mr89 S P 50 (L.set 3 (some (q_inc (q_gv L 3) (nI 1)))) st sh M c s) := (propext (mv_R_iff (i := .iinc 3 1) (len := 3) (ax := []) (by decide +kernel))).trans (q_inc_eq (K := fun L => mr89 S P 50 L st sh M c s))
theorem e89_50 : mr89 S P 50 L st sh M c s = (mr89 S P 20 L st sh M c s) := propext (mv_R_iff (i := .goto (-30)) (len := 3) (ax := [20]) (by decide +kernel))
theorem e89_53 : mr89 S P 53 L st sh M c s = (q_isA (q_gv L 0) ∧ mr89 S P 54 L (q_gv L 0 :: st) sh M c s) := (propext (mv_R_iff (i := .aload_n 0) (len := 1) (ax := []) (by decide +kernel))).trans (q_ldA_eq (K := fun st => mr89 S P 54 L st sh M c s))
theorem e89_54 {a : Nat} : mr89 S P 54 L (.ref a :: st) sh M c s = (mv_kgf sh M a 3 3 (mr89 S P) 57 L st c s) := propext (mv_R_iff (i := .getfield 44) (len := 3) (ax := [257, 0, 3, 3]) (by decide +kernel))
theorem e89_57 {x : Int32} : mr89 S P 57 L [.int x] sh M c s = (mv_nr 0 x ∧ P (some (.int x)) sh M) := propext (mv_R_iff (i := .ireturn) (len := 1) (ax := [0]) (by decide +kernel))
-- 99: Search.seek(LTurnedTablets$Loom;II)I
def mk99 : mv_Cd := [
  (0, .aload_n 0, 1, []),
  (1, .aload_n 1, 1, []),
  (2, .invokevirtual 36, 3, [0, 81, 2, 3, 0, 0, 0, 803, 805, 46, 112, 806]),
  (5, .istore 4, 2, []),
  (7, .aload_n 0, 1, []),
  (8, .iload_n 2, 1, []),
  (9, .iconst (-1), 1, []),
  (10, .invokevirtual 40, 3, [0, 83, 3, 3, 0, 0, 0, 809, 811, 47, 112, 812]),
  (13, .iconst 0, 1, []),
  (14, .istore 5, 2, []),
  (16, .iload 5, 2, []),
  (18, .aload_n 0, 1, []),
  (19, .getfield 44, 3, [257, 0, 3, 3]),
  (22, .if_icmp .ge 76, 3, [98]),
  (25, .iload 5, 2, []),
  (27, .sipush 4096, 3, []),
  (30, .if_icmp .ge 68, 3, [98]),
  (33, .aload_n 0, 1, []),
  (34, .getfield 9, 3, [254, 0, 3, 0]),
  (37, .iload 5, 2, []),
  (39, .iaload, 1, []),
  (40, .istore 6, 2, []),
  (42, .aload_n 1, 1, []),
  (43, .iload 6, 2, []),
  (45, .iload_n 3, 1, []),
  (46, .invokevirtual 47, 3, [1, 74, 3, 1, 0, 0, 818, 820, 49, 109, 821]),
  (49, .ifCond .eq 6, 3, [55]),
  (52, .iload 6, 2, []),
  (54, .ireturn, 1, [0]),
  (55, .iconst 0, 1, []),
  (56, .istore 7, 2, []),
  (58, .iload 7, 2, []),
  (60, .iload 4, 2, []),
  (62, .if_icmp .ge 30, 3, [92]),
  (65, .aload_n 0, 1, []),
  (66, .aload_n 0, 1, []),
  (67, .iload 6, 2, []),
  (69, .iload 7, 2, []),
  (71, .invokevirtual 51, 3, [0, 84, 3, 3, 0, 0, 0, 822, 824, 50, 112, 825]),
  (74, .iconst 1, 1, []),
  (75, .iload 6, 2, []),
  (77, .iconst 4, 1, []),
  (78, .ishl, 1, []),
  (79, .iload 7, 2, []),
  (81, .ior, 1, []),
  (82, .iadd, 1, []),
  (83, .invokevirtual 54, 3, [0, 82, 3, 3, 0, 0, 0, 814, 816, 48, 112, 817]),
  (86, .iinc 7 1, 3, []),
  (89, .goto (-31), 3, [58]),
  (92, .iinc 5 1, 3, []),
  (95, .goto (-79), 3, [16]),
  (98, .iconst (-1), 1, []),
  (99, .ireturn, 1, [0])]
def mr99 (S : Nat → mv_Sp) (P : mv_Post) : mv_Kt := mv_R mv_DF mk99 S (0, 0) P
theorem e99_0 : mr99 S P 0 L st sh M c s = (q_isA (q_gv L 0) ∧ mr99 S P 1 L (q_gv L 0 :: st) sh M c s) := (propext (mv_R_iff (i := .aload_n 0) (len := 1) (ax := []) (by decide +kernel))).trans (q_ldA_eq (K := fun st => mr99 S P 1 L st sh M c s))
theorem e99_1 : mr99 S P 1 L st sh M c s = (q_isA (q_gv L 1) ∧ mr99 S P 2 L (q_gv L 1 :: st) sh M c s) := (propext (mv_R_iff (i := .aload_n 1) (len := 1) (ax := []) (by decide +kernel))).trans (q_ldA_eq (K := fun st => mr99 S P 2 L st sh M c s))
theorem e99_2 {v2 : Value} {v1 : Value} : mr99 S P 2 L (v2 :: v1 :: st) sh M c s = (mv_ss st ≤ 8 ∧ c ≤ 0 ∧ s ≤ 0 ∧ mv_isO sh (some v1) 3 ∧ mv_kal S 81 [v1, v2] sh M (mr99 S P) 5 L st c s) := (propext (mv_R_iff (i := .invokevirtual 36) (len := 3) (ax := [0, 81, 2, 3, 0, 0, 0, 803, 805, 46, 112, 806]) (by decide +kernel))).trans (q_call0)
theorem e99_5 {x : Int32} : mr99 S P 5 L (.int x :: st) sh M c s = (q_hs L 4 ∧ mr99 S P 7 (L.set 4 (some (.int x))) st sh M c s) := (propext (mv_R_iff (i := .istore 4) (len := 2) (ax := []) (by decide +kernel))).trans (q_st_eq (K := fun L => mr99 S P 7 L st sh M c s))
theorem e99_7 : mr99 S P 7 L st sh M c s = (q_isA (q_gv L 0) ∧ mr99 S P 8 L (q_gv L 0 :: st) sh M c s) := (propext (mv_R_iff (i := .aload_n 0) (len := 1) (ax := []) (by decide +kernel))).trans (q_ldA_eq (K := fun st => mr99 S P 8 L st sh M c s))
theorem e99_8 : mr99 S P 8 L st sh M c s = (q_isI (q_gv L 2) ∧ mr99 S P 9 L (q_gv L 2 :: st) sh M c s) := (propext (mv_R_iff (i := .iload_n 2) (len := 1) (ax := []) (by decide +kernel))).trans (q_ldI_eq (K := fun st => mr99 S P 9 L st sh M c s))
theorem e99_9 : mr99 S P 9 L st sh M c s = (mr99 S P 10 L (.int (Int32.ofInt (-1)) :: st) sh M c s) := propext (mv_R_iff (i := .iconst (-1)) (len := 1) (ax := []) (by decide +kernel))
theorem e99_10 {v3 : Value} {v2 : Value} {v1 : Value} : mr99 S P 10 L (v3 :: v2 :: v1 :: st) sh M c s = (mv_ss st ≤ 8 ∧ c ≤ 0 ∧ s ≤ 0 ∧ mv_isO sh (some v1) 3 ∧ mv_kal S 83 [v1, v2, v3] sh M (mr99 S P) 13 L st c s) := (propext (mv_R_iff (i := .invokevirtual 40) (len := 3) (ax := [0, 83, 3, 3, 0, 0, 0, 809, 811, 47, 112, 812]) (by decide +kernel))).trans (q_call0)
theorem e99_13 : mr99 S P 13 L st sh M c s = (mr99 S P 14 L (.int (nI 0) :: st) sh M c s) := propext (mv_R_iff (i := .iconst 0) (len := 1) (ax := []) (by decide +kernel))
theorem e99_14 {x : Int32} : mr99 S P 14 L (.int x :: st) sh M c s = (q_hs L 5 ∧ mr99 S P 16 (L.set 5 (some (.int x))) st sh M c s) := (propext (mv_R_iff (i := .istore 5) (len := 2) (ax := []) (by decide +kernel))).trans (q_st_eq (K := fun L => mr99 S P 16 L st sh M c s))
theorem e99_16 : mr99 S P 16 L st sh M c s = (q_isI (q_gv L 5) ∧ mr99 S P 18 L (q_gv L 5 :: st) sh M c s) := (propext (mv_R_iff (i := .iload 5) (len := 2) (ax := []) (by decide +kernel))).trans (q_ldI_eq (K := fun st => mr99 S P 18 L st sh M c s))
theorem e99_18 : mr99 S P 18 L st sh M c s = (q_isA (q_gv L 0) ∧ mr99 S P 19 L (q_gv L 0 :: st) sh M c s) := (propext (mv_R_iff (i := .aload_n 0) (len := 1) (ax := []) (by decide +kernel))).trans (q_ldA_eq (K := fun st => mr99 S P 19 L st sh M c s))
theorem e99_19 {a : Nat} : mr99 S P 19 L (.ref a :: st) sh M c s = (mv_kgf sh M a 3 3 (mr99 S P) 22 L st c s) := propext (mv_R_iff (i := .getfield 44) (len := 3) (ax := [257, 0, 3, 3]) (by decide +kernel))
theorem e99_22 {y : Int32} {x : Int32} : mr99 S P 22 L (.int y :: .int x :: st) sh M c s = (if y ≤ x then mr99 S P 98 L st sh M c s else mr99 S P 25 L st sh M c s) := (propext (mv_R_iff (i := .if_icmp .ge 76) (len := 3) (ax := [98]) (by decide +kernel))).trans (q_br)
theorem e99_25 : mr99 S P 25 L st sh M c s = (q_isI (q_gv L 5) ∧ mr99 S P 27 L (q_gv L 5 :: st) sh M c s) := (propext (mv_R_iff (i := .iload 5) (len := 2) (ax := []) (by decide +kernel))).trans (q_ldI_eq (K := fun st => mr99 S P 27 L st sh M c s))
theorem e99_27 : mr99 S P 27 L st sh M c s = (mr99 S P 30 L (.int (nI 4096) :: st) sh M c s) := propext (mv_R_iff (i := .sipush 4096) (len := 3) (ax := []) (by decide +kernel))
theorem e99_30 {y : Int32} {x : Int32} : mr99 S P 30 L (.int y :: .int x :: st) sh M c s = (if y ≤ x then mr99 S P 98 L st sh M c s else mr99 S P 33 L st sh M c s) := (propext (mv_R_iff (i := .if_icmp .ge 68) (len := 3) (ax := [98]) (by decide +kernel))).trans (q_br)
theorem e99_33 : mr99 S P 33 L st sh M c s = (q_isA (q_gv L 0) ∧ mr99 S P 34 L (q_gv L 0 :: st) sh M c s) := (propext (mv_R_iff (i := .aload_n 0) (len := 1) (ax := []) (by decide +kernel))).trans (q_ldA_eq (K := fun st => mr99 S P 34 L st sh M c s))
theorem e99_34 {a : Nat} : mr99 S P 34 L (.ref a :: st) sh M c s = (mv_kgf sh M a 3 0 (mr99 S P) 37 L st c s) := propext (mv_R_iff (i := .getfield 9) (len := 3) (ax := [254, 0, 3, 0]) (by decide +kernel))
theorem e99_37 : mr99 S P 37 L st sh M c s = (q_isI (q_gv L 5) ∧ mr99 S P 39 L (q_gv L 5 :: st) sh M c s) := (propext (mv_R_iff (i := .iload 5) (len := 2) (ax := []) (by decide +kernel))).trans (q_ldI_eq (K := fun st => mr99 S P 39 L st sh M c s))
theorem e99_39 {i : Int32} {a : Nat} : mr99 S P 39 L (.int i :: .ref a :: st) sh M c s = (mv_kld sh M a i (mr99 S P) 40 L st c s) := propext (mv_R_iff (i := .iaload) (len := 1) (ax := []) (by decide +kernel))
theorem e99_40 {x : Int32} : mr99 S P 40 L (.int x :: st) sh M c s = (q_hs L 6 ∧ mr99 S P 42 (L.set 6 (some (.int x))) st sh M c s) := (propext (mv_R_iff (i := .istore 6) (len := 2) (ax := []) (by decide +kernel))).trans (q_st_eq (K := fun L => mr99 S P 42 L st sh M c s))
theorem e99_42 : mr99 S P 42 L st sh M c s = (q_isA (q_gv L 1) ∧ mr99 S P 43 L (q_gv L 1 :: st) sh M c s) := (propext (mv_R_iff (i := .aload_n 1) (len := 1) (ax := []) (by decide +kernel))).trans (q_ldA_eq (K := fun st => mr99 S P 43 L st sh M c s))
theorem e99_43 : mr99 S P 43 L st sh M c s = (q_isI (q_gv L 6) ∧ mr99 S P 45 L (q_gv L 6 :: st) sh M c s) := (propext (mv_R_iff (i := .iload 6) (len := 2) (ax := []) (by decide +kernel))).trans (q_ldI_eq (K := fun st => mr99 S P 45 L st sh M c s))
theorem e99_45 : mr99 S P 45 L st sh M c s = (q_isI (q_gv L 3) ∧ mr99 S P 46 L (q_gv L 3 :: st) sh M c s) := (propext (mv_R_iff (i := .iload_n 3) (len := 1) (ax := []) (by decide +kernel))).trans (q_ldI_eq (K := fun st => mr99 S P 46 L st sh M c s))
theorem e99_46 {v3 : Value} {v2 : Value} {v1 : Value} : mr99 S P 46 L (v3 :: v2 :: v1 :: st) sh M c s = (mv_ss st ≤ 8 ∧ c ≤ 0 ∧ s ≤ 0 ∧ mv_isO sh (some v1) 1 ∧ mv_kal S 74 [v1, v2, v3] sh M (mr99 S P) 49 L st c s) := (propext (mv_R_iff (i := .invokevirtual 47) (len := 3) (ax := [1, 74, 3, 1, 0, 0, 818, 820, 49, 109, 821]) (by decide +kernel))).trans (q_call1)
theorem e99_49 {x : Int32} : mr99 S P 49 L (.int x :: st) sh M c s = (if x = nI 0 then mr99 S P 55 L st sh M c s else mr99 S P 52 L st sh M c s) := (propext (mv_R_iff (i := .ifCond .eq 6) (len := 3) (ax := [55]) (by decide +kernel))).trans (q_br)
theorem e99_52 : mr99 S P 52 L st sh M c s = (q_isI (q_gv L 6) ∧ mr99 S P 54 L (q_gv L 6 :: st) sh M c s) := (propext (mv_R_iff (i := .iload 6) (len := 2) (ax := []) (by decide +kernel))).trans (q_ldI_eq (K := fun st => mr99 S P 54 L st sh M c s))
theorem e99_54 {x : Int32} : mr99 S P 54 L [.int x] sh M c s = (mv_nr 0 x ∧ P (some (.int x)) sh M) := propext (mv_R_iff (i := .ireturn) (len := 1) (ax := [0]) (by decide +kernel))
theorem e99_55 : mr99 S P 55 L st sh M c s = (mr99 S P 56 L (.int (nI 0) :: st) sh M c s) := propext (mv_R_iff (i := .iconst 0) (len := 1) (ax := []) (by decide +kernel))
theorem e99_56 {x : Int32} : mr99 S P 56 L (.int x :: st) sh M c s = (q_hs L 7 ∧ mr99 S P 58 (L.set 7 (some (.int x))) st sh M c s) := (propext (mv_R_iff (i := .istore 7) (len := 2) (ax := []) (by decide +kernel))).trans (q_st_eq (K := fun L => mr99 S P 58 L st sh M c s))
theorem e99_58 : mr99 S P 58 L st sh M c s = (q_isI (q_gv L 7) ∧ mr99 S P 60 L (q_gv L 7 :: st) sh M c s) := (propext (mv_R_iff (i := .iload 7) (len := 2) (ax := []) (by decide +kernel))).trans (q_ldI_eq (K := fun st => mr99 S P 60 L st sh M c s))
theorem e99_60 : mr99 S P 60 L st sh M c s = (q_isI (q_gv L 4) ∧ mr99 S P 62 L (q_gv L 4 :: st) sh M c s) := (propext (mv_R_iff (i := .iload 4) (len := 2) (ax := []) (by decide +kernel))).trans (q_ldI_eq (K := fun st => mr99 S P 62 L st sh M c s))
theorem e99_62 {y : Int32} {x : Int32} : mr99 S P 62 L (.int y :: .int x :: st) sh M c s = (if y ≤ x then mr99 S P 92 L st sh M c s else mr99 S P 65 L st sh M c s) := (propext (mv_R_iff (i := .if_icmp .ge 30) (len := 3) (ax := [92]) (by decide +kernel))).trans (q_br)
theorem e99_65 : mr99 S P 65 L st sh M c s = (q_isA (q_gv L 0) ∧ mr99 S P 66 L (q_gv L 0 :: st) sh M c s) := (propext (mv_R_iff (i := .aload_n 0) (len := 1) (ax := []) (by decide +kernel))).trans (q_ldA_eq (K := fun st => mr99 S P 66 L st sh M c s))
theorem e99_66 : mr99 S P 66 L st sh M c s = (q_isA (q_gv L 0) ∧ mr99 S P 67 L (q_gv L 0 :: st) sh M c s) := (propext (mv_R_iff (i := .aload_n 0) (len := 1) (ax := []) (by decide +kernel))).trans (q_ldA_eq (K := fun st => mr99 S P 67 L st sh M c s))
theorem e99_67 : mr99 S P 67 L st sh M c s = (q_isI (q_gv L 6) ∧ mr99 S P 69 L (q_gv L 6 :: st) sh M c s) := (propext (mv_R_iff (i := .iload 6) (len := 2) (ax := []) (by decide +kernel))).trans (q_ldI_eq (K := fun st => mr99 S P 69 L st sh M c s))
theorem e99_69 : mr99 S P 69 L st sh M c s = (q_isI (q_gv L 7) ∧ mr99 S P 71 L (q_gv L 7 :: st) sh M c s) := (propext (mv_R_iff (i := .iload 7) (len := 2) (ax := []) (by decide +kernel))).trans (q_ldI_eq (K := fun st => mr99 S P 71 L st sh M c s))
theorem e99_71 {v3 : Value} {v2 : Value} {v1 : Value} : mr99 S P 71 L (v3 :: v2 :: v1 :: st) sh M c s = (mv_ss st ≤ 8 ∧ c ≤ 0 ∧ s ≤ 0 ∧ mv_isO sh (some v1) 3 ∧ mv_kal S 84 [v1, v2, v3] sh M (mr99 S P) 74 L st c s) := (propext (mv_R_iff (i := .invokevirtual 51) (len := 3) (ax := [0, 84, 3, 3, 0, 0, 0, 822, 824, 50, 112, 825]) (by decide +kernel))).trans (q_call0)
theorem e99_74 : mr99 S P 74 L st sh M c s = (mr99 S P 75 L (.int (nI 1) :: st) sh M c s) := propext (mv_R_iff (i := .iconst 1) (len := 1) (ax := []) (by decide +kernel))
theorem e99_75 : mr99 S P 75 L st sh M c s = (q_isI (q_gv L 6) ∧ mr99 S P 77 L (q_gv L 6 :: st) sh M c s) := (propext (mv_R_iff (i := .iload 6) (len := 2) (ax := []) (by decide +kernel))).trans (q_ldI_eq (K := fun st => mr99 S P 77 L st sh M c s))
theorem e99_77 : mr99 S P 77 L st sh M c s = (mr99 S P 78 L (.int (nI 4) :: st) sh M c s) := propext (mv_R_iff (i := .iconst 4) (len := 1) (ax := []) (by decide +kernel))
theorem e99_78 {y : Int32} {x : Int32} : mr99 S P 78 L (.int y :: .int x :: st) sh M c s = (mr99 S P 79 L (.int (x <<< (y &&& 31)) :: st) sh M c s) := propext (mv_R_iff (i := .ishl) (len := 1) (ax := []) (by decide +kernel))
theorem e99_79 : mr99 S P 79 L st sh M c s = (q_isI (q_gv L 7) ∧ mr99 S P 81 L (q_gv L 7 :: st) sh M c s) := (propext (mv_R_iff (i := .iload 7) (len := 2) (ax := []) (by decide +kernel))).trans (q_ldI_eq (K := fun st => mr99 S P 81 L st sh M c s))
theorem e99_81 {y : Int32} {x : Int32} : mr99 S P 81 L (.int y :: .int x :: st) sh M c s = (mr99 S P 82 L (.int (x ||| y) :: st) sh M c s) := propext (mv_R_iff (i := .ior) (len := 1) (ax := []) (by decide +kernel))
theorem e99_82 {y : Int32} {x : Int32} : mr99 S P 82 L (.int y :: .int x :: st) sh M c s = (mr99 S P 83 L (.int (x + y) :: st) sh M c s) := propext (mv_R_iff (i := .iadd) (len := 1) (ax := []) (by decide +kernel))
theorem e99_83 {v3 : Value} {v2 : Value} {v1 : Value} : mr99 S P 83 L (v3 :: v2 :: v1 :: st) sh M c s = (mv_ss st ≤ 8 ∧ c ≤ 0 ∧ s ≤ 0 ∧ mv_isO sh (some v1) 3 ∧ mv_kal S 82 [v1, v2, v3] sh M (mr99 S P) 86 L st c s) := (propext (mv_R_iff (i := .invokevirtual 54) (len := 3) (ax := [0, 82, 3, 3, 0, 0, 0, 814, 816, 48, 112, 817]) (by decide +kernel))).trans (q_call0)
theorem e99_86 : mr99 S P 86 L st sh M c s = ((q_isI (q_gv L 7) ∧ q_hs L 7) ∧ mr99 S P 89 (L.set 7 (some (q_inc (q_gv L 7) (nI 1)))) st sh M c s) := (propext (mv_R_iff (i := .iinc 7 1) (len := 3) (ax := []) (by decide +kernel))).trans (q_inc_eq (K := fun L => mr99 S P 89 L st sh M c s))
theorem e99_89 : mr99 S P 89 L st sh M c s = (mr99 S P 58 L st sh M c s) := propext (mv_R_iff (i := .goto (-31)) (len := 3) (ax := [58]) (by decide +kernel))
theorem e99_92 : mr99 S P 92 L st sh M c s = ((q_isI (q_gv L 5) ∧ q_hs L 5) ∧ mr99 S P 95 (L.set 5 (some (q_inc (q_gv L 5) (nI 1)))) st sh M c s) := (propext (mv_R_iff (i := .iinc 5 1) (len := 3) (ax := []) (by decide +kernel))).trans (q_inc_eq (K := fun L => mr99 S P 95 L st sh M c s))
theorem e99_95 : mr99 S P 95 L st sh M c s = (mr99 S P 16 L st sh M c s) := propext (mv_R_iff (i := .goto (-79)) (len := 3) (ax := [16]) (by decide +kernel))
theorem e99_98 : mr99 S P 98 L st sh M c s = (mr99 S P 99 L (.int (Int32.ofInt (-1)) :: st) sh M c s) := propext (mv_R_iff (i := .iconst (-1)) (len := 1) (ax := []) (by decide +kernel))
theorem e99_99 {x : Int32} : mr99 S P 99 L [.int x] sh M c s = (mv_nr 0 x ∧ P (some (.int x)) sh M) := propext (mv_R_iff (i := .ireturn) (len := 1) (ax := [0]) (by decide +kernel))
-- 100: Search.comesFrom(I)I
def mk100 : mv_Cd := [
  (0, .aload_n 0, 1, []),
  (1, .iload_n 1, 1, []),
  (2, .invokevirtual 66, 3, [0, 85, 2, 3, 0, 0, 0, 831, 833, 52, 112, 834]),
  (5, .istore_n 2, 1, []),
  (6, .iload_n 2, 1, []),
  (7, .ifCond .le 11, 3, [18]),
  (10, .iload_n 2, 1, []),
  (11, .iconst 1, 1, []),
  (12, .isub, 1, []),
  (13, .iconst 4, 1, []),
  (14, .ishr, 1, []),
  (15, .goto 4, 3, [19]),
  (18, .iload_n 1, 1, []),
  (19, .ireturn, 1, [0])]
def mr100 (S : Nat → mv_Sp) (P : mv_Post) : mv_Kt := mv_R mv_DF mk100 S (0, 0) P
theorem e100_0 : mr100 S P 0 L st sh M c s = (q_isA (q_gv L 0) ∧ mr100 S P 1 L (q_gv L 0 :: st) sh M c s) := (propext (mv_R_iff (i := .aload_n 0) (len := 1) (ax := []) (by decide +kernel))).trans (q_ldA_eq (K := fun st => mr100 S P 1 L st sh M c s))
theorem e100_1 : mr100 S P 1 L st sh M c s = (q_isI (q_gv L 1) ∧ mr100 S P 2 L (q_gv L 1 :: st) sh M c s) := (propext (mv_R_iff (i := .iload_n 1) (len := 1) (ax := []) (by decide +kernel))).trans (q_ldI_eq (K := fun st => mr100 S P 2 L st sh M c s))
theorem e100_2 {v2 : Value} {v1 : Value} : mr100 S P 2 L (v2 :: v1 :: st) sh M c s = (mv_ss st ≤ 8 ∧ c ≤ 0 ∧ s ≤ 0 ∧ mv_isO sh (some v1) 3 ∧ mv_kal S 85 [v1, v2] sh M (mr100 S P) 5 L st c s) := (propext (mv_R_iff (i := .invokevirtual 66) (len := 3) (ax := [0, 85, 2, 3, 0, 0, 0, 831, 833, 52, 112, 834]) (by decide +kernel))).trans (q_call0)
theorem e100_5 {x : Int32} : mr100 S P 5 L (.int x :: st) sh M c s = (q_hs L 2 ∧ mr100 S P 6 (L.set 2 (some (.int x))) st sh M c s) := (propext (mv_R_iff (i := .istore_n 2) (len := 1) (ax := []) (by decide +kernel))).trans (q_st_eq (K := fun L => mr100 S P 6 L st sh M c s))
theorem e100_6 : mr100 S P 6 L st sh M c s = (q_isI (q_gv L 2) ∧ mr100 S P 7 L (q_gv L 2 :: st) sh M c s) := (propext (mv_R_iff (i := .iload_n 2) (len := 1) (ax := []) (by decide +kernel))).trans (q_ldI_eq (K := fun st => mr100 S P 7 L st sh M c s))
theorem e100_7 {x : Int32} : mr100 S P 7 L (.int x :: st) sh M c s = (if x ≤ nI 0 then mr100 S P 18 L st sh M c s else mr100 S P 10 L st sh M c s) := (propext (mv_R_iff (i := .ifCond .le 11) (len := 3) (ax := [18]) (by decide +kernel))).trans (q_br)
theorem e100_10 : mr100 S P 10 L st sh M c s = (q_isI (q_gv L 2) ∧ mr100 S P 11 L (q_gv L 2 :: st) sh M c s) := (propext (mv_R_iff (i := .iload_n 2) (len := 1) (ax := []) (by decide +kernel))).trans (q_ldI_eq (K := fun st => mr100 S P 11 L st sh M c s))
theorem e100_11 : mr100 S P 11 L st sh M c s = (mr100 S P 12 L (.int (nI 1) :: st) sh M c s) := propext (mv_R_iff (i := .iconst 1) (len := 1) (ax := []) (by decide +kernel))
theorem e100_12 {y : Int32} {x : Int32} : mr100 S P 12 L (.int y :: .int x :: st) sh M c s = (mr100 S P 13 L (.int (x - y) :: st) sh M c s) := propext (mv_R_iff (i := .isub) (len := 1) (ax := []) (by decide +kernel))
theorem e100_13 : mr100 S P 13 L st sh M c s = (mr100 S P 14 L (.int (nI 4) :: st) sh M c s) := propext (mv_R_iff (i := .iconst 4) (len := 1) (ax := []) (by decide +kernel))
theorem e100_14 {y : Int32} {x : Int32} : mr100 S P 14 L (.int y :: .int x :: st) sh M c s = (mr100 S P 15 L (.int (x >>> (y &&& 31)) :: st) sh M c s) := propext (mv_R_iff (i := .ishr) (len := 1) (ax := []) (by decide +kernel))
theorem e100_15 : mr100 S P 15 L st sh M c s = (mr100 S P 19 L st sh M c s) := propext (mv_R_iff (i := .goto 4) (len := 3) (ax := [19]) (by decide +kernel))
theorem e100_18 : mr100 S P 18 L st sh M c s = (q_isI (q_gv L 1) ∧ mr100 S P 19 L (q_gv L 1 :: st) sh M c s) := (propext (mv_R_iff (i := .iload_n 1) (len := 1) (ax := []) (by decide +kernel))).trans (q_ldI_eq (K := fun st => mr100 S P 19 L st sh M c s))
theorem e100_19 {x : Int32} : mr100 S P 19 L [.int x] sh M c s = (mv_nr 0 x ∧ P (some (.int x)) sh M) := propext (mv_R_iff (i := .ireturn) (len := 1) (ax := [0]) (by decide +kernel))
-- 101: Search.stepsTo(I)I
def mk101 : mv_Cd := [
  (0, .iload_n 1, 1, []),
  (1, .istore_n 2, 1, []),
  (2, .iconst 0, 1, []),
  (3, .istore_n 3, 1, []),
  (4, .iload_n 3, 1, []),
  (5, .sipush 4096, 3, []),
  (8, .if_icmp .ge 23, 3, [31]),
  (11, .aload_n 0, 1, []),
  (12, .iload_n 2, 1, []),
  (13, .invokevirtual 66, 3, [0, 85, 2, 3, 0, 0, 0, 831, 833, 52, 112, 834]),
  (16, .ifCond .le 15, 3, [31]),
  (19, .aload_n 0, 1, []),
  (20, .iload_n 2, 1, []),
  (21, .invokevirtual 70, 3, [0, 100, 2, 3, 0, 0, 0, 835, 837, 53, 112, 838]),
  (24, .istore_n 2, 1, []),
  (25, .iinc 3 1, 3, []),
  (28, .goto (-24), 3, [4]),
  (31, .iload_n 3, 1, []),
  (32, .ireturn, 1, [0])]
def mr101 (S : Nat → mv_Sp) (P : mv_Post) : mv_Kt := mv_R mv_DF mk101 S (0, 0) P
theorem e101_0 : mr101 S P 0 L st sh M c s = (q_isI (q_gv L 1) ∧ mr101 S P 1 L (q_gv L 1 :: st) sh M c s) := (propext (mv_R_iff (i := .iload_n 1) (len := 1) (ax := []) (by decide +kernel))).trans (q_ldI_eq (K := fun st => mr101 S P 1 L st sh M c s))
theorem e101_1 {x : Int32} : mr101 S P 1 L (.int x :: st) sh M c s = (q_hs L 2 ∧ mr101 S P 2 (L.set 2 (some (.int x))) st sh M c s) := (propext (mv_R_iff (i := .istore_n 2) (len := 1) (ax := []) (by decide +kernel))).trans (q_st_eq (K := fun L => mr101 S P 2 L st sh M c s))
theorem e101_2 : mr101 S P 2 L st sh M c s = (mr101 S P 3 L (.int (nI 0) :: st) sh M c s) := propext (mv_R_iff (i := .iconst 0) (len := 1) (ax := []) (by decide +kernel))
theorem e101_3 {x : Int32} : mr101 S P 3 L (.int x :: st) sh M c s = (q_hs L 3 ∧ mr101 S P 4 (L.set 3 (some (.int x))) st sh M c s) := (propext (mv_R_iff (i := .istore_n 3) (len := 1) (ax := []) (by decide +kernel))).trans (q_st_eq (K := fun L => mr101 S P 4 L st sh M c s))
theorem e101_4 : mr101 S P 4 L st sh M c s = (q_isI (q_gv L 3) ∧ mr101 S P 5 L (q_gv L 3 :: st) sh M c s) := (propext (mv_R_iff (i := .iload_n 3) (len := 1) (ax := []) (by decide +kernel))).trans (q_ldI_eq (K := fun st => mr101 S P 5 L st sh M c s))
theorem e101_5 : mr101 S P 5 L st sh M c s = (mr101 S P 8 L (.int (nI 4096) :: st) sh M c s) := propext (mv_R_iff (i := .sipush 4096) (len := 3) (ax := []) (by decide +kernel))
theorem e101_8 {y : Int32} {x : Int32} : mr101 S P 8 L (.int y :: .int x :: st) sh M c s = (if y ≤ x then mr101 S P 31 L st sh M c s else mr101 S P 11 L st sh M c s) := (propext (mv_R_iff (i := .if_icmp .ge 23) (len := 3) (ax := [31]) (by decide +kernel))).trans (q_br)
theorem e101_11 : mr101 S P 11 L st sh M c s = (q_isA (q_gv L 0) ∧ mr101 S P 12 L (q_gv L 0 :: st) sh M c s) := (propext (mv_R_iff (i := .aload_n 0) (len := 1) (ax := []) (by decide +kernel))).trans (q_ldA_eq (K := fun st => mr101 S P 12 L st sh M c s))
theorem e101_12 : mr101 S P 12 L st sh M c s = (q_isI (q_gv L 2) ∧ mr101 S P 13 L (q_gv L 2 :: st) sh M c s) := (propext (mv_R_iff (i := .iload_n 2) (len := 1) (ax := []) (by decide +kernel))).trans (q_ldI_eq (K := fun st => mr101 S P 13 L st sh M c s))
theorem e101_13 {v2 : Value} {v1 : Value} : mr101 S P 13 L (v2 :: v1 :: st) sh M c s = (mv_ss st ≤ 8 ∧ c ≤ 0 ∧ s ≤ 0 ∧ mv_isO sh (some v1) 3 ∧ mv_kal S 85 [v1, v2] sh M (mr101 S P) 16 L st c s) := (propext (mv_R_iff (i := .invokevirtual 66) (len := 3) (ax := [0, 85, 2, 3, 0, 0, 0, 831, 833, 52, 112, 834]) (by decide +kernel))).trans (q_call0)
theorem e101_16 {x : Int32} : mr101 S P 16 L (.int x :: st) sh M c s = (if x ≤ nI 0 then mr101 S P 31 L st sh M c s else mr101 S P 19 L st sh M c s) := (propext (mv_R_iff (i := .ifCond .le 15) (len := 3) (ax := [31]) (by decide +kernel))).trans (q_br)
theorem e101_19 : mr101 S P 19 L st sh M c s = (q_isA (q_gv L 0) ∧ mr101 S P 20 L (q_gv L 0 :: st) sh M c s) := (propext (mv_R_iff (i := .aload_n 0) (len := 1) (ax := []) (by decide +kernel))).trans (q_ldA_eq (K := fun st => mr101 S P 20 L st sh M c s))
theorem e101_20 : mr101 S P 20 L st sh M c s = (q_isI (q_gv L 2) ∧ mr101 S P 21 L (q_gv L 2 :: st) sh M c s) := (propext (mv_R_iff (i := .iload_n 2) (len := 1) (ax := []) (by decide +kernel))).trans (q_ldI_eq (K := fun st => mr101 S P 21 L st sh M c s))
theorem e101_21 {v2 : Value} {v1 : Value} : mr101 S P 21 L (v2 :: v1 :: st) sh M c s = (mv_ss st ≤ 8 ∧ c ≤ 0 ∧ s ≤ 0 ∧ mv_isO sh (some v1) 3 ∧ mv_kal S 100 [v1, v2] sh M (mr101 S P) 24 L st c s) := (propext (mv_R_iff (i := .invokevirtual 70) (len := 3) (ax := [0, 100, 2, 3, 0, 0, 0, 835, 837, 53, 112, 838]) (by decide +kernel))).trans (q_call0)
theorem e101_24 {x : Int32} : mr101 S P 24 L (.int x :: st) sh M c s = (q_hs L 2 ∧ mr101 S P 25 (L.set 2 (some (.int x))) st sh M c s) := (propext (mv_R_iff (i := .istore_n 2) (len := 1) (ax := []) (by decide +kernel))).trans (q_st_eq (K := fun L => mr101 S P 25 L st sh M c s))
theorem e101_25 : mr101 S P 25 L st sh M c s = ((q_isI (q_gv L 3) ∧ q_hs L 3) ∧ mr101 S P 28 (L.set 3 (some (q_inc (q_gv L 3) (nI 1)))) st sh M c s) := (propext (mv_R_iff (i := .iinc 3 1) (len := 3) (ax := []) (by decide +kernel))).trans (q_inc_eq (K := fun L => mr101 S P 28 L st sh M c s))
theorem e101_28 : mr101 S P 28 L st sh M c s = (mr101 S P 4 L st sh M c s) := propext (mv_R_iff (i := .goto (-24)) (len := 3) (ax := [4]) (by decide +kernel))
theorem e101_31 : mr101 S P 31 L st sh M c s = (q_isI (q_gv L 3) ∧ mr101 S P 32 L (q_gv L 3 :: st) sh M c s) := (propext (mv_R_iff (i := .iload_n 3) (len := 1) (ax := []) (by decide +kernel))).trans (q_ldI_eq (K := fun st => mr101 S P 32 L st sh M c s))
theorem e101_32 {x : Int32} : mr101 S P 32 L [.int x] sh M c s = (mv_nr 0 x ∧ P (some (.int x)) sh M) := propext (mv_R_iff (i := .ireturn) (len := 1) (ax := [0]) (by decide +kernel))
-- 102: Search.pickAt(II)I
def mk102 : mv_Cd := [
  (0, .iload_n 1, 1, []),
  (1, .istore_n 3, 1, []),
  (2, .iconst 0, 1, []),
  (3, .istore 4, 2, []),
  (5, .iload 4, 2, []),
  (7, .iload_n 2, 1, []),
  (8, .if_icmp .ge 23, 3, [31]),
  (11, .iload 4, 2, []),
  (13, .sipush 4096, 3, []),
  (16, .if_icmp .ge 15, 3, [31]),
  (19, .aload_n 0, 1, []),
  (20, .iload_n 3, 1, []),
  (21, .invokevirtual 70, 3, [0, 100, 2, 3, 0, 0, 0, 835, 837, 53, 112, 838]),
  (24, .istore_n 3, 1, []),
  (25, .iinc 4 1, 3, []),
  (28, .goto (-23), 3, [5]),
  (31, .aload_n 0, 1, []),
  (32, .iload_n 3, 1, []),
  (33, .invokevirtual 66, 3, [0, 85, 2, 3, 0, 0, 0, 831, 833, 52, 112, 834]),
  (36, .iconst 1, 1, []),
  (37, .isub, 1, []),
  (38, .bipush 15, 2, []),
  (40, .iand, 1, []),
  (41, .istore 4, 2, []),
  (43, .bipush 10, 2, []),
  (45, .iload 4, 2, []),
  (47, .iconst 2, 1, []),
  (48, .idiv, 1, []),
  (49, .imul, 1, []),
  (50, .iload 4, 2, []),
  (52, .iconst 2, 1, []),
  (53, .irem, 1, []),
  (54, .iadd, 1, []),
  (55, .ireturn, 1, [0])]
def mr102 (S : Nat → mv_Sp) (P : mv_Post) : mv_Kt := mv_R mv_DF mk102 S (0, 0) P
theorem e102_0 : mr102 S P 0 L st sh M c s = (q_isI (q_gv L 1) ∧ mr102 S P 1 L (q_gv L 1 :: st) sh M c s) := (propext (mv_R_iff (i := .iload_n 1) (len := 1) (ax := []) (by decide +kernel))).trans (q_ldI_eq (K := fun st => mr102 S P 1 L st sh M c s))
theorem e102_1 {x : Int32} : mr102 S P 1 L (.int x :: st) sh M c s = (q_hs L 3 ∧ mr102 S P 2 (L.set 3 (some (.int x))) st sh M c s) := (propext (mv_R_iff (i := .istore_n 3) (len := 1) (ax := []) (by decide +kernel))).trans (q_st_eq (K := fun L => mr102 S P 2 L st sh M c s))
theorem e102_2 : mr102 S P 2 L st sh M c s = (mr102 S P 3 L (.int (nI 0) :: st) sh M c s) := propext (mv_R_iff (i := .iconst 0) (len := 1) (ax := []) (by decide +kernel))
theorem e102_3 {x : Int32} : mr102 S P 3 L (.int x :: st) sh M c s = (q_hs L 4 ∧ mr102 S P 5 (L.set 4 (some (.int x))) st sh M c s) := (propext (mv_R_iff (i := .istore 4) (len := 2) (ax := []) (by decide +kernel))).trans (q_st_eq (K := fun L => mr102 S P 5 L st sh M c s))
theorem e102_5 : mr102 S P 5 L st sh M c s = (q_isI (q_gv L 4) ∧ mr102 S P 7 L (q_gv L 4 :: st) sh M c s) := (propext (mv_R_iff (i := .iload 4) (len := 2) (ax := []) (by decide +kernel))).trans (q_ldI_eq (K := fun st => mr102 S P 7 L st sh M c s))
theorem e102_7 : mr102 S P 7 L st sh M c s = (q_isI (q_gv L 2) ∧ mr102 S P 8 L (q_gv L 2 :: st) sh M c s) := (propext (mv_R_iff (i := .iload_n 2) (len := 1) (ax := []) (by decide +kernel))).trans (q_ldI_eq (K := fun st => mr102 S P 8 L st sh M c s))
theorem e102_8 {y : Int32} {x : Int32} : mr102 S P 8 L (.int y :: .int x :: st) sh M c s = (if y ≤ x then mr102 S P 31 L st sh M c s else mr102 S P 11 L st sh M c s) := (propext (mv_R_iff (i := .if_icmp .ge 23) (len := 3) (ax := [31]) (by decide +kernel))).trans (q_br)
theorem e102_11 : mr102 S P 11 L st sh M c s = (q_isI (q_gv L 4) ∧ mr102 S P 13 L (q_gv L 4 :: st) sh M c s) := (propext (mv_R_iff (i := .iload 4) (len := 2) (ax := []) (by decide +kernel))).trans (q_ldI_eq (K := fun st => mr102 S P 13 L st sh M c s))
theorem e102_13 : mr102 S P 13 L st sh M c s = (mr102 S P 16 L (.int (nI 4096) :: st) sh M c s) := propext (mv_R_iff (i := .sipush 4096) (len := 3) (ax := []) (by decide +kernel))
theorem e102_16 {y : Int32} {x : Int32} : mr102 S P 16 L (.int y :: .int x :: st) sh M c s = (if y ≤ x then mr102 S P 31 L st sh M c s else mr102 S P 19 L st sh M c s) := (propext (mv_R_iff (i := .if_icmp .ge 15) (len := 3) (ax := [31]) (by decide +kernel))).trans (q_br)
theorem e102_19 : mr102 S P 19 L st sh M c s = (q_isA (q_gv L 0) ∧ mr102 S P 20 L (q_gv L 0 :: st) sh M c s) := (propext (mv_R_iff (i := .aload_n 0) (len := 1) (ax := []) (by decide +kernel))).trans (q_ldA_eq (K := fun st => mr102 S P 20 L st sh M c s))
theorem e102_20 : mr102 S P 20 L st sh M c s = (q_isI (q_gv L 3) ∧ mr102 S P 21 L (q_gv L 3 :: st) sh M c s) := (propext (mv_R_iff (i := .iload_n 3) (len := 1) (ax := []) (by decide +kernel))).trans (q_ldI_eq (K := fun st => mr102 S P 21 L st sh M c s))
theorem e102_21 {v2 : Value} {v1 : Value} : mr102 S P 21 L (v2 :: v1 :: st) sh M c s = (mv_ss st ≤ 8 ∧ c ≤ 0 ∧ s ≤ 0 ∧ mv_isO sh (some v1) 3 ∧ mv_kal S 100 [v1, v2] sh M (mr102 S P) 24 L st c s) := (propext (mv_R_iff (i := .invokevirtual 70) (len := 3) (ax := [0, 100, 2, 3, 0, 0, 0, 835, 837, 53, 112, 838]) (by decide +kernel))).trans (q_call0)
theorem e102_24 {x : Int32} : mr102 S P 24 L (.int x :: st) sh M c s = (q_hs L 3 ∧ mr102 S P 25 (L.set 3 (some (.int x))) st sh M c s) := (propext (mv_R_iff (i := .istore_n 3) (len := 1) (ax := []) (by decide +kernel))).trans (q_st_eq (K := fun L => mr102 S P 25 L st sh M c s))
theorem e102_25 : mr102 S P 25 L st sh M c s = ((q_isI (q_gv L 4) ∧ q_hs L 4) ∧ mr102 S P 28 (L.set 4 (some (q_inc (q_gv L 4) (nI 1)))) st sh M c s) := (propext (mv_R_iff (i := .iinc 4 1) (len := 3) (ax := []) (by decide +kernel))).trans (q_inc_eq (K := fun L => mr102 S P 28 L st sh M c s))
theorem e102_28 : mr102 S P 28 L st sh M c s = (mr102 S P 5 L st sh M c s) := propext (mv_R_iff (i := .goto (-23)) (len := 3) (ax := [5]) (by decide +kernel))
theorem e102_31 : mr102 S P 31 L st sh M c s = (q_isA (q_gv L 0) ∧ mr102 S P 32 L (q_gv L 0 :: st) sh M c s) := (propext (mv_R_iff (i := .aload_n 0) (len := 1) (ax := []) (by decide +kernel))).trans (q_ldA_eq (K := fun st => mr102 S P 32 L st sh M c s))
theorem e102_32 : mr102 S P 32 L st sh M c s = (q_isI (q_gv L 3) ∧ mr102 S P 33 L (q_gv L 3 :: st) sh M c s) := (propext (mv_R_iff (i := .iload_n 3) (len := 1) (ax := []) (by decide +kernel))).trans (q_ldI_eq (K := fun st => mr102 S P 33 L st sh M c s))
theorem e102_33 {v2 : Value} {v1 : Value} : mr102 S P 33 L (v2 :: v1 :: st) sh M c s = (mv_ss st ≤ 8 ∧ c ≤ 0 ∧ s ≤ 0 ∧ mv_isO sh (some v1) 3 ∧ mv_kal S 85 [v1, v2] sh M (mr102 S P) 36 L st c s) := (propext (mv_R_iff (i := .invokevirtual 66) (len := 3) (ax := [0, 85, 2, 3, 0, 0, 0, 831, 833, 52, 112, 834]) (by decide +kernel))).trans (q_call0)
theorem e102_36 : mr102 S P 36 L st sh M c s = (mr102 S P 37 L (.int (nI 1) :: st) sh M c s) := propext (mv_R_iff (i := .iconst 1) (len := 1) (ax := []) (by decide +kernel))
theorem e102_37 {y : Int32} {x : Int32} : mr102 S P 37 L (.int y :: .int x :: st) sh M c s = (mr102 S P 38 L (.int (x - y) :: st) sh M c s) := propext (mv_R_iff (i := .isub) (len := 1) (ax := []) (by decide +kernel))
theorem e102_38 : mr102 S P 38 L st sh M c s = (mr102 S P 40 L (.int (nI 15) :: st) sh M c s) := propext (mv_R_iff (i := .bipush 15) (len := 2) (ax := []) (by decide +kernel))
theorem e102_40 {y : Int32} {x : Int32} : mr102 S P 40 L (.int y :: .int x :: st) sh M c s = (mr102 S P 41 L (.int (x &&& y) :: st) sh M c s) := propext (mv_R_iff (i := .iand) (len := 1) (ax := []) (by decide +kernel))
theorem e102_41 {x : Int32} : mr102 S P 41 L (.int x :: st) sh M c s = (q_hs L 4 ∧ mr102 S P 43 (L.set 4 (some (.int x))) st sh M c s) := (propext (mv_R_iff (i := .istore 4) (len := 2) (ax := []) (by decide +kernel))).trans (q_st_eq (K := fun L => mr102 S P 43 L st sh M c s))
theorem e102_43 : mr102 S P 43 L st sh M c s = (mr102 S P 45 L (.int (nI 10) :: st) sh M c s) := propext (mv_R_iff (i := .bipush 10) (len := 2) (ax := []) (by decide +kernel))
theorem e102_45 : mr102 S P 45 L st sh M c s = (q_isI (q_gv L 4) ∧ mr102 S P 47 L (q_gv L 4 :: st) sh M c s) := (propext (mv_R_iff (i := .iload 4) (len := 2) (ax := []) (by decide +kernel))).trans (q_ldI_eq (K := fun st => mr102 S P 47 L st sh M c s))
theorem e102_47 : mr102 S P 47 L st sh M c s = (mr102 S P 48 L (.int (nI 2) :: st) sh M c s) := propext (mv_R_iff (i := .iconst 2) (len := 1) (ax := []) (by decide +kernel))
theorem e102_48 {y : Int32} {x : Int32} : mr102 S P 48 L (.int y :: .int x :: st) sh M c s = (¬ y = nI 0 ∧ mr102 S P 49 L (.int (x / y) :: st) sh M c s) := propext (mv_R_iff (i := .idiv) (len := 1) (ax := []) (by decide +kernel))
theorem e102_49 {y : Int32} {x : Int32} : mr102 S P 49 L (.int y :: .int x :: st) sh M c s = (mr102 S P 50 L (.int (x * y) :: st) sh M c s) := propext (mv_R_iff (i := .imul) (len := 1) (ax := []) (by decide +kernel))
theorem e102_50 : mr102 S P 50 L st sh M c s = (q_isI (q_gv L 4) ∧ mr102 S P 52 L (q_gv L 4 :: st) sh M c s) := (propext (mv_R_iff (i := .iload 4) (len := 2) (ax := []) (by decide +kernel))).trans (q_ldI_eq (K := fun st => mr102 S P 52 L st sh M c s))
theorem e102_52 : mr102 S P 52 L st sh M c s = (mr102 S P 53 L (.int (nI 2) :: st) sh M c s) := propext (mv_R_iff (i := .iconst 2) (len := 1) (ax := []) (by decide +kernel))
theorem e102_53 {y : Int32} {x : Int32} : mr102 S P 53 L (.int y :: .int x :: st) sh M c s = (¬ y = nI 0 ∧ mr102 S P 54 L (.int (q_rm x y) :: st) sh M c s) := propext (mv_R_iff (i := .irem) (len := 1) (ax := []) (by decide +kernel))
theorem e102_54 {y : Int32} {x : Int32} : mr102 S P 54 L (.int y :: .int x :: st) sh M c s = (mr102 S P 55 L (.int (x + y) :: st) sh M c s) := propext (mv_R_iff (i := .iadd) (len := 1) (ax := []) (by decide +kernel))
theorem e102_55 {x : Int32} : mr102 S P 55 L [.int x] sh M c s = (mv_nr 0 x ∧ P (some (.int x)) sh M) := propext (mv_R_iff (i := .ireturn) (len := 1) (ax := [0]) (by decide +kernel))
-- 111: Search.keepThose(LTurnedTablets$Loom;I)V
def mk111 : mv_Cd := [
  (0, .iconst 0, 1, []),
  (1, .istore_n 3, 1, []),
  (2, .iload_n 3, 1, []),
  (3, .sipush 4096, 3, []),
  (6, .if_icmp .ge 34, 3, [40]),
  (9, .aload_n 0, 1, []),
  (10, .getfield 15, 3, [255, 0, 3, 1]),
  (13, .iload_n 3, 1, []),
  (14, .iaload, 1, []),
  (15, .ifCond .eq 19, 3, [34]),
  (18, .aload_n 1, 1, []),
  (19, .iload_n 3, 1, []),
  (20, .iload_n 2, 1, []),
  (21, .invokevirtual 47, 3, [1, 74, 3, 1, 0, 0, 818, 820, 49, 109, 821]),
  (24, .ifCond .ne 10, 3, [34]),
  (27, .aload_n 0, 1, []),
  (28, .getfield 15, 3, [255, 0, 3, 1]),
  (31, .iload_n 3, 1, []),
  (32, .iconst 0, 1, []),
  (33, .iastore, 1, []),
  (34, .iinc 3 1, 3, []),
  (37, .goto (-35), 3, [2]),
  (40, .return_, 1, [])]
def mr111 (S : Nat → mv_Sp) (P : mv_Post) : mv_Kt := mv_R mv_DF mk111 S (0, 0) P
theorem e111_0 : mr111 S P 0 L st sh M c s = (mr111 S P 1 L (.int (nI 0) :: st) sh M c s) := propext (mv_R_iff (i := .iconst 0) (len := 1) (ax := []) (by decide +kernel))
theorem e111_1 {x : Int32} : mr111 S P 1 L (.int x :: st) sh M c s = (q_hs L 3 ∧ mr111 S P 2 (L.set 3 (some (.int x))) st sh M c s) := (propext (mv_R_iff (i := .istore_n 3) (len := 1) (ax := []) (by decide +kernel))).trans (q_st_eq (K := fun L => mr111 S P 2 L st sh M c s))
theorem e111_2 : mr111 S P 2 L st sh M c s = (q_isI (q_gv L 3) ∧ mr111 S P 3 L (q_gv L 3 :: st) sh M c s) := (propext (mv_R_iff (i := .iload_n 3) (len := 1) (ax := []) (by decide +kernel))).trans (q_ldI_eq (K := fun st => mr111 S P 3 L st sh M c s))
theorem e111_3 : mr111 S P 3 L st sh M c s = (mr111 S P 6 L (.int (nI 4096) :: st) sh M c s) := propext (mv_R_iff (i := .sipush 4096) (len := 3) (ax := []) (by decide +kernel))
theorem e111_6 {y : Int32} {x : Int32} : mr111 S P 6 L (.int y :: .int x :: st) sh M c s = (if y ≤ x then mr111 S P 40 L st sh M c s else mr111 S P 9 L st sh M c s) := (propext (mv_R_iff (i := .if_icmp .ge 34) (len := 3) (ax := [40]) (by decide +kernel))).trans (q_br)
theorem e111_9 : mr111 S P 9 L st sh M c s = (q_isA (q_gv L 0) ∧ mr111 S P 10 L (q_gv L 0 :: st) sh M c s) := (propext (mv_R_iff (i := .aload_n 0) (len := 1) (ax := []) (by decide +kernel))).trans (q_ldA_eq (K := fun st => mr111 S P 10 L st sh M c s))
theorem e111_10 {a : Nat} : mr111 S P 10 L (.ref a :: st) sh M c s = (mv_kgf sh M a 3 1 (mr111 S P) 13 L st c s) := propext (mv_R_iff (i := .getfield 15) (len := 3) (ax := [255, 0, 3, 1]) (by decide +kernel))
theorem e111_13 : mr111 S P 13 L st sh M c s = (q_isI (q_gv L 3) ∧ mr111 S P 14 L (q_gv L 3 :: st) sh M c s) := (propext (mv_R_iff (i := .iload_n 3) (len := 1) (ax := []) (by decide +kernel))).trans (q_ldI_eq (K := fun st => mr111 S P 14 L st sh M c s))
theorem e111_14 {i : Int32} {a : Nat} : mr111 S P 14 L (.int i :: .ref a :: st) sh M c s = (mv_kld sh M a i (mr111 S P) 15 L st c s) := propext (mv_R_iff (i := .iaload) (len := 1) (ax := []) (by decide +kernel))
theorem e111_15 {x : Int32} : mr111 S P 15 L (.int x :: st) sh M c s = (if x = nI 0 then mr111 S P 34 L st sh M c s else mr111 S P 18 L st sh M c s) := (propext (mv_R_iff (i := .ifCond .eq 19) (len := 3) (ax := [34]) (by decide +kernel))).trans (q_br)
theorem e111_18 : mr111 S P 18 L st sh M c s = (q_isA (q_gv L 1) ∧ mr111 S P 19 L (q_gv L 1 :: st) sh M c s) := (propext (mv_R_iff (i := .aload_n 1) (len := 1) (ax := []) (by decide +kernel))).trans (q_ldA_eq (K := fun st => mr111 S P 19 L st sh M c s))
theorem e111_19 : mr111 S P 19 L st sh M c s = (q_isI (q_gv L 3) ∧ mr111 S P 20 L (q_gv L 3 :: st) sh M c s) := (propext (mv_R_iff (i := .iload_n 3) (len := 1) (ax := []) (by decide +kernel))).trans (q_ldI_eq (K := fun st => mr111 S P 20 L st sh M c s))
theorem e111_20 : mr111 S P 20 L st sh M c s = (q_isI (q_gv L 2) ∧ mr111 S P 21 L (q_gv L 2 :: st) sh M c s) := (propext (mv_R_iff (i := .iload_n 2) (len := 1) (ax := []) (by decide +kernel))).trans (q_ldI_eq (K := fun st => mr111 S P 21 L st sh M c s))
theorem e111_21 {v3 : Value} {v2 : Value} {v1 : Value} : mr111 S P 21 L (v3 :: v2 :: v1 :: st) sh M c s = (mv_ss st ≤ 8 ∧ c ≤ 0 ∧ s ≤ 0 ∧ mv_isO sh (some v1) 1 ∧ mv_kal S 74 [v1, v2, v3] sh M (mr111 S P) 24 L st c s) := (propext (mv_R_iff (i := .invokevirtual 47) (len := 3) (ax := [1, 74, 3, 1, 0, 0, 818, 820, 49, 109, 821]) (by decide +kernel))).trans (q_call1)
theorem e111_24 {x : Int32} : mr111 S P 24 L (.int x :: st) sh M c s = (if x = nI 0 then mr111 S P 27 L st sh M c s else mr111 S P 34 L st sh M c s) := (propext (mv_R_iff (i := .ifCond .ne 10) (len := 3) (ax := [34]) (by decide +kernel))).trans (q_br')
theorem e111_27 : mr111 S P 27 L st sh M c s = (q_isA (q_gv L 0) ∧ mr111 S P 28 L (q_gv L 0 :: st) sh M c s) := (propext (mv_R_iff (i := .aload_n 0) (len := 1) (ax := []) (by decide +kernel))).trans (q_ldA_eq (K := fun st => mr111 S P 28 L st sh M c s))
theorem e111_28 {a : Nat} : mr111 S P 28 L (.ref a :: st) sh M c s = (mv_kgf sh M a 3 1 (mr111 S P) 31 L st c s) := propext (mv_R_iff (i := .getfield 15) (len := 3) (ax := [255, 0, 3, 1]) (by decide +kernel))
theorem e111_31 : mr111 S P 31 L st sh M c s = (q_isI (q_gv L 3) ∧ mr111 S P 32 L (q_gv L 3 :: st) sh M c s) := (propext (mv_R_iff (i := .iload_n 3) (len := 1) (ax := []) (by decide +kernel))).trans (q_ldI_eq (K := fun st => mr111 S P 32 L st sh M c s))
theorem e111_32 : mr111 S P 32 L st sh M c s = (mr111 S P 33 L (.int (nI 0) :: st) sh M c s) := propext (mv_R_iff (i := .iconst 0) (len := 1) (ax := []) (by decide +kernel))
theorem e111_33 {x : Int32} {i : Int32} {a : Nat} : mr111 S P 33 L (.int x :: .int i :: .ref a :: st) sh M c s = (mv_kst sh M a i x (mr111 S P) 34 L st c s) := propext (mv_R_iff (i := .iastore) (len := 1) (ax := []) (by decide +kernel))
theorem e111_34 : mr111 S P 34 L st sh M c s = ((q_isI (q_gv L 3) ∧ q_hs L 3) ∧ mr111 S P 37 (L.set 3 (some (q_inc (q_gv L 3) (nI 1)))) st sh M c s) := (propext (mv_R_iff (i := .iinc 3 1) (len := 3) (ax := []) (by decide +kernel))).trans (q_inc_eq (K := fun L => mr111 S P 37 L st sh M c s))
theorem e111_37 : mr111 S P 37 L st sh M c s = (mr111 S P 2 L st sh M c s) := propext (mv_R_iff (i := .goto (-35)) (len := 3) (ax := [2]) (by decide +kernel))
theorem e111_40 : mr111 S P 40 L [] sh M c s = (P none sh M) := propext (mv_R_iff (i := .return_) (len := 1) (ax := []) (by decide +kernel))
-- 112: Search.goBack(I)V
def mk112 : mv_Cd := [
  (0, .aload_n 0, 1, []),
  (1, .getfield 15, 3, [255, 0, 3, 1]),
  (4, .iconst 0, 1, []),
  (5, .aload_n 0, 1, []),
  (6, .getfield 9, 3, [254, 0, 3, 0]),
  (9, .iconst 0, 1, []),
  (10, .sipush 4096, 3, []),
  (13, .invokestatic 95, 3, [10, 902, 313, 312, 116]),
  (16, .aload_n 0, 1, []),
  (17, .getfield 15, 3, [255, 0, 3, 1]),
  (20, .iconst 0, 1, []),
  (21, .invokestatic 60, 3, [3, 42, 2, 0, 0, 0, 0, 813, 493, 115, 494]),
  (24, .iconst 0, 1, []),
  (25, .istore_n 2, 1, []),
  (26, .iload_n 2, 1, []),
  (27, .sipush 4096, 3, []),
  (30, .if_icmp .ge 70, 3, [100]),
  (33, .iconst 0, 1, []),
  (34, .istore_n 3, 1, []),
  (35, .iload_n 3, 1, []),
  (36, .iload_n 1, 1, []),
  (37, .if_icmp .ge 57, 3, [94]),
  (40, .aload_n 0, 1, []),
  (41, .getfield 9, 3, [254, 0, 3, 0]),
  (44, .iload_n 2, 1, []),
  (45, .iaload, 1, []),
  (46, .ifCond .le 48, 3, [94]),
  (49, .aload_n 0, 1, []),
  (50, .aload_n 0, 1, []),
  (51, .aload_n 0, 1, []),
  (52, .iload_n 2, 1, []),
  (53, .iload_n 3, 1, []),
  (54, .invokevirtual 51, 3, [0, 84, 3, 3, 0, 0, 0, 822, 824, 50, 112, 825]),
  (57, .iload_n 3, 1, []),
  (58, .invokevirtual 51, 3, [0, 84, 3, 3, 0, 0, 0, 822, 824, 50, 112, 825]),
  (61, .iload_n 3, 1, []),
  (62, .invokevirtual 51, 3, [0, 84, 3, 3, 0, 0, 0, 822, 824, 50, 112, 825]),
  (65, .istore 4, 2, []),
  (67, .iload 4, 2, []),
  (69, .ifCond .lt 19, 3, [88]),
  (72, .iload 4, 2, []),
  (74, .sipush 4096, 3, []),
  (77, .if_icmp .ge 11, 3, [88]),
  (80, .aload_n 0, 1, []),
  (81, .getfield 15, 3, [255, 0, 3, 1]),
  (84, .iload 4, 2, []),
  (86, .iconst 1, 1, []),
  (87, .iastore, 1, []),
  (88, .iinc 3 1, 3, []),
  (91, .goto (-56), 3, [35]),
  (94, .iinc 2 1, 3, []),
  (97, .goto (-71), 3, [26]),
  (100, .return_, 1, [])]
def mr112 (S : Nat → mv_Sp) (P : mv_Post) : mv_Kt := mv_R mv_DF mk112 S (0, 0) P
theorem e112_0 : mr112 S P 0 L st sh M c s = (q_isA (q_gv L 0) ∧ mr112 S P 1 L (q_gv L 0 :: st) sh M c s) := (propext (mv_R_iff (i := .aload_n 0) (len := 1) (ax := []) (by decide +kernel))).trans (q_ldA_eq (K := fun st => mr112 S P 1 L st sh M c s))
theorem e112_1 {a : Nat} : mr112 S P 1 L (.ref a :: st) sh M c s = (mv_kgf sh M a 3 1 (mr112 S P) 4 L st c s) := propext (mv_R_iff (i := .getfield 15) (len := 3) (ax := [255, 0, 3, 1]) (by decide +kernel))
theorem e112_4 : mr112 S P 4 L st sh M c s = (mr112 S P 5 L (.int (nI 0) :: st) sh M c s) := propext (mv_R_iff (i := .iconst 0) (len := 1) (ax := []) (by decide +kernel))
theorem e112_5 : mr112 S P 5 L st sh M c s = (q_isA (q_gv L 0) ∧ mr112 S P 6 L (q_gv L 0 :: st) sh M c s) := (propext (mv_R_iff (i := .aload_n 0) (len := 1) (ax := []) (by decide +kernel))).trans (q_ldA_eq (K := fun st => mr112 S P 6 L st sh M c s))
theorem e112_6 {a : Nat} : mr112 S P 6 L (.ref a :: st) sh M c s = (mv_kgf sh M a 3 0 (mr112 S P) 9 L st c s) := propext (mv_R_iff (i := .getfield 9) (len := 3) (ax := [254, 0, 3, 0]) (by decide +kernel))
theorem e112_9 : mr112 S P 9 L st sh M c s = (mr112 S P 10 L (.int (nI 0) :: st) sh M c s) := propext (mv_R_iff (i := .iconst 0) (len := 1) (ax := []) (by decide +kernel))
theorem e112_10 : mr112 S P 10 L st sh M c s = (mr112 S P 13 L (.int (nI 4096) :: st) sh M c s) := propext (mv_R_iff (i := .sipush 4096) (len := 3) (ax := []) (by decide +kernel))
theorem e112_13 {n : Int32} {dp : Int32} {d : Nat} {sp : Int32} {a : Nat} : mr112 S P 13 L (.int n :: .int dp :: .ref d :: .int sp :: .ref a :: st) sh M c s = (mv_kcp sh M a sp d dp n (mr112 S P) 16 L st c s) := propext (mv_R_iff (i := .invokestatic 95) (len := 3) (ax := [10, 902, 313, 312, 116]) (by decide +kernel))
theorem e112_16 : mr112 S P 16 L st sh M c s = (q_isA (q_gv L 0) ∧ mr112 S P 17 L (q_gv L 0 :: st) sh M c s) := (propext (mv_R_iff (i := .aload_n 0) (len := 1) (ax := []) (by decide +kernel))).trans (q_ldA_eq (K := fun st => mr112 S P 17 L st sh M c s))
theorem e112_17 {a : Nat} : mr112 S P 17 L (.ref a :: st) sh M c s = (mv_kgf sh M a 3 1 (mr112 S P) 20 L st c s) := propext (mv_R_iff (i := .getfield 15) (len := 3) (ax := [255, 0, 3, 1]) (by decide +kernel))
theorem e112_20 : mr112 S P 20 L st sh M c s = (mr112 S P 21 L (.int (nI 0) :: st) sh M c s) := propext (mv_R_iff (i := .iconst 0) (len := 1) (ax := []) (by decide +kernel))
theorem e112_21 {v2 : Value} {v1 : Value} : mr112 S P 21 L (v2 :: v1 :: st) sh M c s = (mv_ss st ≤ 8 ∧ c ≤ 0 ∧ s ≤ 0 ∧ True ∧ mv_kal S 42 [v1, v2] sh M (mr112 S P) 24 L st c s) := (propext (mv_R_iff (i := .invokestatic 60) (len := 3) (ax := [3, 42, 2, 0, 0, 0, 0, 813, 493, 115, 494]) (by decide +kernel))).trans (q_call3)
theorem e112_24 : mr112 S P 24 L st sh M c s = (mr112 S P 25 L (.int (nI 0) :: st) sh M c s) := propext (mv_R_iff (i := .iconst 0) (len := 1) (ax := []) (by decide +kernel))
theorem e112_25 {x : Int32} : mr112 S P 25 L (.int x :: st) sh M c s = (q_hs L 2 ∧ mr112 S P 26 (L.set 2 (some (.int x))) st sh M c s) := (propext (mv_R_iff (i := .istore_n 2) (len := 1) (ax := []) (by decide +kernel))).trans (q_st_eq (K := fun L => mr112 S P 26 L st sh M c s))
theorem e112_26 : mr112 S P 26 L st sh M c s = (q_isI (q_gv L 2) ∧ mr112 S P 27 L (q_gv L 2 :: st) sh M c s) := (propext (mv_R_iff (i := .iload_n 2) (len := 1) (ax := []) (by decide +kernel))).trans (q_ldI_eq (K := fun st => mr112 S P 27 L st sh M c s))
theorem e112_27 : mr112 S P 27 L st sh M c s = (mr112 S P 30 L (.int (nI 4096) :: st) sh M c s) := propext (mv_R_iff (i := .sipush 4096) (len := 3) (ax := []) (by decide +kernel))
theorem e112_30 {y : Int32} {x : Int32} : mr112 S P 30 L (.int y :: .int x :: st) sh M c s = (if y ≤ x then mr112 S P 100 L st sh M c s else mr112 S P 33 L st sh M c s) := (propext (mv_R_iff (i := .if_icmp .ge 70) (len := 3) (ax := [100]) (by decide +kernel))).trans (q_br)
theorem e112_33 : mr112 S P 33 L st sh M c s = (mr112 S P 34 L (.int (nI 0) :: st) sh M c s) := propext (mv_R_iff (i := .iconst 0) (len := 1) (ax := []) (by decide +kernel))
theorem e112_34 {x : Int32} : mr112 S P 34 L (.int x :: st) sh M c s = (q_hs L 3 ∧ mr112 S P 35 (L.set 3 (some (.int x))) st sh M c s) := (propext (mv_R_iff (i := .istore_n 3) (len := 1) (ax := []) (by decide +kernel))).trans (q_st_eq (K := fun L => mr112 S P 35 L st sh M c s))
theorem e112_35 : mr112 S P 35 L st sh M c s = (q_isI (q_gv L 3) ∧ mr112 S P 36 L (q_gv L 3 :: st) sh M c s) := (propext (mv_R_iff (i := .iload_n 3) (len := 1) (ax := []) (by decide +kernel))).trans (q_ldI_eq (K := fun st => mr112 S P 36 L st sh M c s))
theorem e112_36 : mr112 S P 36 L st sh M c s = (q_isI (q_gv L 1) ∧ mr112 S P 37 L (q_gv L 1 :: st) sh M c s) := (propext (mv_R_iff (i := .iload_n 1) (len := 1) (ax := []) (by decide +kernel))).trans (q_ldI_eq (K := fun st => mr112 S P 37 L st sh M c s))
theorem e112_37 {y : Int32} {x : Int32} : mr112 S P 37 L (.int y :: .int x :: st) sh M c s = (if y ≤ x then mr112 S P 94 L st sh M c s else mr112 S P 40 L st sh M c s) := (propext (mv_R_iff (i := .if_icmp .ge 57) (len := 3) (ax := [94]) (by decide +kernel))).trans (q_br)
theorem e112_40 : mr112 S P 40 L st sh M c s = (q_isA (q_gv L 0) ∧ mr112 S P 41 L (q_gv L 0 :: st) sh M c s) := (propext (mv_R_iff (i := .aload_n 0) (len := 1) (ax := []) (by decide +kernel))).trans (q_ldA_eq (K := fun st => mr112 S P 41 L st sh M c s))
theorem e112_41 {a : Nat} : mr112 S P 41 L (.ref a :: st) sh M c s = (mv_kgf sh M a 3 0 (mr112 S P) 44 L st c s) := propext (mv_R_iff (i := .getfield 9) (len := 3) (ax := [254, 0, 3, 0]) (by decide +kernel))
theorem e112_44 : mr112 S P 44 L st sh M c s = (q_isI (q_gv L 2) ∧ mr112 S P 45 L (q_gv L 2 :: st) sh M c s) := (propext (mv_R_iff (i := .iload_n 2) (len := 1) (ax := []) (by decide +kernel))).trans (q_ldI_eq (K := fun st => mr112 S P 45 L st sh M c s))
theorem e112_45 {i : Int32} {a : Nat} : mr112 S P 45 L (.int i :: .ref a :: st) sh M c s = (mv_kld sh M a i (mr112 S P) 46 L st c s) := propext (mv_R_iff (i := .iaload) (len := 1) (ax := []) (by decide +kernel))
theorem e112_46 {x : Int32} : mr112 S P 46 L (.int x :: st) sh M c s = (if x ≤ nI 0 then mr112 S P 94 L st sh M c s else mr112 S P 49 L st sh M c s) := (propext (mv_R_iff (i := .ifCond .le 48) (len := 3) (ax := [94]) (by decide +kernel))).trans (q_br)
theorem e112_49 : mr112 S P 49 L st sh M c s = (q_isA (q_gv L 0) ∧ mr112 S P 50 L (q_gv L 0 :: st) sh M c s) := (propext (mv_R_iff (i := .aload_n 0) (len := 1) (ax := []) (by decide +kernel))).trans (q_ldA_eq (K := fun st => mr112 S P 50 L st sh M c s))
theorem e112_50 : mr112 S P 50 L st sh M c s = (q_isA (q_gv L 0) ∧ mr112 S P 51 L (q_gv L 0 :: st) sh M c s) := (propext (mv_R_iff (i := .aload_n 0) (len := 1) (ax := []) (by decide +kernel))).trans (q_ldA_eq (K := fun st => mr112 S P 51 L st sh M c s))
theorem e112_51 : mr112 S P 51 L st sh M c s = (q_isA (q_gv L 0) ∧ mr112 S P 52 L (q_gv L 0 :: st) sh M c s) := (propext (mv_R_iff (i := .aload_n 0) (len := 1) (ax := []) (by decide +kernel))).trans (q_ldA_eq (K := fun st => mr112 S P 52 L st sh M c s))
theorem e112_52 : mr112 S P 52 L st sh M c s = (q_isI (q_gv L 2) ∧ mr112 S P 53 L (q_gv L 2 :: st) sh M c s) := (propext (mv_R_iff (i := .iload_n 2) (len := 1) (ax := []) (by decide +kernel))).trans (q_ldI_eq (K := fun st => mr112 S P 53 L st sh M c s))
theorem e112_53 : mr112 S P 53 L st sh M c s = (q_isI (q_gv L 3) ∧ mr112 S P 54 L (q_gv L 3 :: st) sh M c s) := (propext (mv_R_iff (i := .iload_n 3) (len := 1) (ax := []) (by decide +kernel))).trans (q_ldI_eq (K := fun st => mr112 S P 54 L st sh M c s))
theorem e112_54 {v3 : Value} {v2 : Value} {v1 : Value} : mr112 S P 54 L (v3 :: v2 :: v1 :: st) sh M c s = (mv_ss st ≤ 8 ∧ c ≤ 0 ∧ s ≤ 0 ∧ mv_isO sh (some v1) 3 ∧ mv_kal S 84 [v1, v2, v3] sh M (mr112 S P) 57 L st c s) := (propext (mv_R_iff (i := .invokevirtual 51) (len := 3) (ax := [0, 84, 3, 3, 0, 0, 0, 822, 824, 50, 112, 825]) (by decide +kernel))).trans (q_call0)
theorem e112_57 : mr112 S P 57 L st sh M c s = (q_isI (q_gv L 3) ∧ mr112 S P 58 L (q_gv L 3 :: st) sh M c s) := (propext (mv_R_iff (i := .iload_n 3) (len := 1) (ax := []) (by decide +kernel))).trans (q_ldI_eq (K := fun st => mr112 S P 58 L st sh M c s))
theorem e112_58 {v3 : Value} {v2 : Value} {v1 : Value} : mr112 S P 58 L (v3 :: v2 :: v1 :: st) sh M c s = (mv_ss st ≤ 8 ∧ c ≤ 0 ∧ s ≤ 0 ∧ mv_isO sh (some v1) 3 ∧ mv_kal S 84 [v1, v2, v3] sh M (mr112 S P) 61 L st c s) := (propext (mv_R_iff (i := .invokevirtual 51) (len := 3) (ax := [0, 84, 3, 3, 0, 0, 0, 822, 824, 50, 112, 825]) (by decide +kernel))).trans (q_call0)
theorem e112_61 : mr112 S P 61 L st sh M c s = (q_isI (q_gv L 3) ∧ mr112 S P 62 L (q_gv L 3 :: st) sh M c s) := (propext (mv_R_iff (i := .iload_n 3) (len := 1) (ax := []) (by decide +kernel))).trans (q_ldI_eq (K := fun st => mr112 S P 62 L st sh M c s))
theorem e112_62 {v3 : Value} {v2 : Value} {v1 : Value} : mr112 S P 62 L (v3 :: v2 :: v1 :: st) sh M c s = (mv_ss st ≤ 8 ∧ c ≤ 0 ∧ s ≤ 0 ∧ mv_isO sh (some v1) 3 ∧ mv_kal S 84 [v1, v2, v3] sh M (mr112 S P) 65 L st c s) := (propext (mv_R_iff (i := .invokevirtual 51) (len := 3) (ax := [0, 84, 3, 3, 0, 0, 0, 822, 824, 50, 112, 825]) (by decide +kernel))).trans (q_call0)
theorem e112_65 {x : Int32} : mr112 S P 65 L (.int x :: st) sh M c s = (q_hs L 4 ∧ mr112 S P 67 (L.set 4 (some (.int x))) st sh M c s) := (propext (mv_R_iff (i := .istore 4) (len := 2) (ax := []) (by decide +kernel))).trans (q_st_eq (K := fun L => mr112 S P 67 L st sh M c s))
theorem e112_67 : mr112 S P 67 L st sh M c s = (q_isI (q_gv L 4) ∧ mr112 S P 69 L (q_gv L 4 :: st) sh M c s) := (propext (mv_R_iff (i := .iload 4) (len := 2) (ax := []) (by decide +kernel))).trans (q_ldI_eq (K := fun st => mr112 S P 69 L st sh M c s))
theorem e112_69 {x : Int32} : mr112 S P 69 L (.int x :: st) sh M c s = (if x < nI 0 then mr112 S P 88 L st sh M c s else mr112 S P 72 L st sh M c s) := (propext (mv_R_iff (i := .ifCond .lt 19) (len := 3) (ax := [88]) (by decide +kernel))).trans (q_br)
theorem e112_72 : mr112 S P 72 L st sh M c s = (q_isI (q_gv L 4) ∧ mr112 S P 74 L (q_gv L 4 :: st) sh M c s) := (propext (mv_R_iff (i := .iload 4) (len := 2) (ax := []) (by decide +kernel))).trans (q_ldI_eq (K := fun st => mr112 S P 74 L st sh M c s))
theorem e112_74 : mr112 S P 74 L st sh M c s = (mr112 S P 77 L (.int (nI 4096) :: st) sh M c s) := propext (mv_R_iff (i := .sipush 4096) (len := 3) (ax := []) (by decide +kernel))
theorem e112_77 {y : Int32} {x : Int32} : mr112 S P 77 L (.int y :: .int x :: st) sh M c s = (if y ≤ x then mr112 S P 88 L st sh M c s else mr112 S P 80 L st sh M c s) := (propext (mv_R_iff (i := .if_icmp .ge 11) (len := 3) (ax := [88]) (by decide +kernel))).trans (q_br)
theorem e112_80 : mr112 S P 80 L st sh M c s = (q_isA (q_gv L 0) ∧ mr112 S P 81 L (q_gv L 0 :: st) sh M c s) := (propext (mv_R_iff (i := .aload_n 0) (len := 1) (ax := []) (by decide +kernel))).trans (q_ldA_eq (K := fun st => mr112 S P 81 L st sh M c s))
theorem e112_81 {a : Nat} : mr112 S P 81 L (.ref a :: st) sh M c s = (mv_kgf sh M a 3 1 (mr112 S P) 84 L st c s) := propext (mv_R_iff (i := .getfield 15) (len := 3) (ax := [255, 0, 3, 1]) (by decide +kernel))
theorem e112_84 : mr112 S P 84 L st sh M c s = (q_isI (q_gv L 4) ∧ mr112 S P 86 L (q_gv L 4 :: st) sh M c s) := (propext (mv_R_iff (i := .iload 4) (len := 2) (ax := []) (by decide +kernel))).trans (q_ldI_eq (K := fun st => mr112 S P 86 L st sh M c s))
theorem e112_86 : mr112 S P 86 L st sh M c s = (mr112 S P 87 L (.int (nI 1) :: st) sh M c s) := propext (mv_R_iff (i := .iconst 1) (len := 1) (ax := []) (by decide +kernel))
theorem e112_87 {x : Int32} {i : Int32} {a : Nat} : mr112 S P 87 L (.int x :: .int i :: .ref a :: st) sh M c s = (mv_kst sh M a i x (mr112 S P) 88 L st c s) := propext (mv_R_iff (i := .iastore) (len := 1) (ax := []) (by decide +kernel))
theorem e112_88 : mr112 S P 88 L st sh M c s = ((q_isI (q_gv L 3) ∧ q_hs L 3) ∧ mr112 S P 91 (L.set 3 (some (q_inc (q_gv L 3) (nI 1)))) st sh M c s) := (propext (mv_R_iff (i := .iinc 3 1) (len := 3) (ax := []) (by decide +kernel))).trans (q_inc_eq (K := fun L => mr112 S P 91 L st sh M c s))
theorem e112_91 : mr112 S P 91 L st sh M c s = (mr112 S P 35 L st sh M c s) := propext (mv_R_iff (i := .goto (-56)) (len := 3) (ax := [35]) (by decide +kernel))
theorem e112_94 : mr112 S P 94 L st sh M c s = ((q_isI (q_gv L 2) ∧ q_hs L 2) ∧ mr112 S P 97 (L.set 2 (some (q_inc (q_gv L 2) (nI 1)))) st sh M c s) := (propext (mv_R_iff (i := .iinc 2 1) (len := 3) (ax := []) (by decide +kernel))).trans (q_inc_eq (K := fun L => mr112 S P 97 L st sh M c s))
theorem e112_97 : mr112 S P 97 L st sh M c s = (mr112 S P 26 L st sh M c s) := propext (mv_R_iff (i := .goto (-71)) (len := 3) (ax := [26]) (by decide +kernel))
theorem e112_100 : mr112 S P 100 L [] sh M c s = (P none sh M) := propext (mv_R_iff (i := .return_) (len := 1) (ax := []) (by decide +kernel))
-- 113: Search.sumOfMarks()I
def mk113 : mv_Cd := [
  (0, .iconst 0, 1, []),
  (1, .istore_n 1, 1, []),
  (2, .iconst 0, 1, []),
  (3, .istore_n 2, 1, []),
  (4, .iload_n 2, 1, []),
  (5, .sipush 4096, 3, []),
  (8, .if_icmp .ge 18, 3, [26]),
  (11, .iload_n 1, 1, []),
  (12, .aload_n 0, 1, []),
  (13, .getfield 15, 3, [255, 0, 3, 1]),
  (16, .iload_n 2, 1, []),
  (17, .iaload, 1, []),
  (18, .iadd, 1, []),
  (19, .istore_n 1, 1, []),
  (20, .iinc 2 1, 3, []),
  (23, .goto (-19), 3, [4]),
  (26, .iload_n 1, 1, []),
  (27, .ireturn, 1, [0])]
def mr113 (S : Nat → mv_Sp) (P : mv_Post) : mv_Kt := mv_R mv_DF mk113 S (0, 0) P
theorem e113_0 : mr113 S P 0 L st sh M c s = (mr113 S P 1 L (.int (nI 0) :: st) sh M c s) := propext (mv_R_iff (i := .iconst 0) (len := 1) (ax := []) (by decide +kernel))
theorem e113_1 {x : Int32} : mr113 S P 1 L (.int x :: st) sh M c s = (q_hs L 1 ∧ mr113 S P 2 (L.set 1 (some (.int x))) st sh M c s) := (propext (mv_R_iff (i := .istore_n 1) (len := 1) (ax := []) (by decide +kernel))).trans (q_st_eq (K := fun L => mr113 S P 2 L st sh M c s))
theorem e113_2 : mr113 S P 2 L st sh M c s = (mr113 S P 3 L (.int (nI 0) :: st) sh M c s) := propext (mv_R_iff (i := .iconst 0) (len := 1) (ax := []) (by decide +kernel))
theorem e113_3 {x : Int32} : mr113 S P 3 L (.int x :: st) sh M c s = (q_hs L 2 ∧ mr113 S P 4 (L.set 2 (some (.int x))) st sh M c s) := (propext (mv_R_iff (i := .istore_n 2) (len := 1) (ax := []) (by decide +kernel))).trans (q_st_eq (K := fun L => mr113 S P 4 L st sh M c s))
theorem e113_4 : mr113 S P 4 L st sh M c s = (q_isI (q_gv L 2) ∧ mr113 S P 5 L (q_gv L 2 :: st) sh M c s) := (propext (mv_R_iff (i := .iload_n 2) (len := 1) (ax := []) (by decide +kernel))).trans (q_ldI_eq (K := fun st => mr113 S P 5 L st sh M c s))
theorem e113_5 : mr113 S P 5 L st sh M c s = (mr113 S P 8 L (.int (nI 4096) :: st) sh M c s) := propext (mv_R_iff (i := .sipush 4096) (len := 3) (ax := []) (by decide +kernel))
theorem e113_8 {y : Int32} {x : Int32} : mr113 S P 8 L (.int y :: .int x :: st) sh M c s = (if y ≤ x then mr113 S P 26 L st sh M c s else mr113 S P 11 L st sh M c s) := (propext (mv_R_iff (i := .if_icmp .ge 18) (len := 3) (ax := [26]) (by decide +kernel))).trans (q_br)
theorem e113_11 : mr113 S P 11 L st sh M c s = (q_isI (q_gv L 1) ∧ mr113 S P 12 L (q_gv L 1 :: st) sh M c s) := (propext (mv_R_iff (i := .iload_n 1) (len := 1) (ax := []) (by decide +kernel))).trans (q_ldI_eq (K := fun st => mr113 S P 12 L st sh M c s))
theorem e113_12 : mr113 S P 12 L st sh M c s = (q_isA (q_gv L 0) ∧ mr113 S P 13 L (q_gv L 0 :: st) sh M c s) := (propext (mv_R_iff (i := .aload_n 0) (len := 1) (ax := []) (by decide +kernel))).trans (q_ldA_eq (K := fun st => mr113 S P 13 L st sh M c s))
theorem e113_13 {a : Nat} : mr113 S P 13 L (.ref a :: st) sh M c s = (mv_kgf sh M a 3 1 (mr113 S P) 16 L st c s) := propext (mv_R_iff (i := .getfield 15) (len := 3) (ax := [255, 0, 3, 1]) (by decide +kernel))
theorem e113_16 : mr113 S P 16 L st sh M c s = (q_isI (q_gv L 2) ∧ mr113 S P 17 L (q_gv L 2 :: st) sh M c s) := (propext (mv_R_iff (i := .iload_n 2) (len := 1) (ax := []) (by decide +kernel))).trans (q_ldI_eq (K := fun st => mr113 S P 17 L st sh M c s))
theorem e113_17 {i : Int32} {a : Nat} : mr113 S P 17 L (.int i :: .ref a :: st) sh M c s = (mv_kld sh M a i (mr113 S P) 18 L st c s) := propext (mv_R_iff (i := .iaload) (len := 1) (ax := []) (by decide +kernel))
theorem e113_18 {y : Int32} {x : Int32} : mr113 S P 18 L (.int y :: .int x :: st) sh M c s = (mr113 S P 19 L (.int (x + y) :: st) sh M c s) := propext (mv_R_iff (i := .iadd) (len := 1) (ax := []) (by decide +kernel))
theorem e113_19 {x : Int32} : mr113 S P 19 L (.int x :: st) sh M c s = (q_hs L 1 ∧ mr113 S P 20 (L.set 1 (some (.int x))) st sh M c s) := (propext (mv_R_iff (i := .istore_n 1) (len := 1) (ax := []) (by decide +kernel))).trans (q_st_eq (K := fun L => mr113 S P 20 L st sh M c s))
theorem e113_20 : mr113 S P 20 L st sh M c s = ((q_isI (q_gv L 2) ∧ q_hs L 2) ∧ mr113 S P 23 (L.set 2 (some (q_inc (q_gv L 2) (nI 1)))) st sh M c s) := (propext (mv_R_iff (i := .iinc 2 1) (len := 3) (ax := []) (by decide +kernel))).trans (q_inc_eq (K := fun L => mr113 S P 23 L st sh M c s))
theorem e113_23 : mr113 S P 23 L st sh M c s = (mr113 S P 4 L st sh M c s) := propext (mv_R_iff (i := .goto (-19)) (len := 3) (ax := [4]) (by decide +kernel))
theorem e113_26 : mr113 S P 26 L st sh M c s = (q_isI (q_gv L 1) ∧ mr113 S P 27 L (q_gv L 1 :: st) sh M c s) := (propext (mv_R_iff (i := .iload_n 1) (len := 1) (ax := []) (by decide +kernel))).trans (q_ldI_eq (K := fun st => mr113 S P 27 L st sh M c s))
theorem e113_27 {x : Int32} : mr113 S P 27 L [.int x] sh M c s = (mv_nr 0 x ∧ P (some (.int x)) sh M) := propext (mv_R_iff (i := .ireturn) (len := 1) (ax := [0]) (by decide +kernel))
-- 114: Search.countStarts(LTurnedTablets$Loom;[II)I
def mk114 : mv_Cd := [
  (0, .aload_n 0, 1, []),
  (1, .aload_n 1, 1, []),
  (2, .invokevirtual 36, 3, [0, 81, 2, 3, 0, 0, 0, 803, 805, 46, 112, 806]),
  (5, .istore 4, 2, []),
  (7, .iconst 1, 1, []),
  (8, .iconst 2, 1, []),
  (9, .aload_n 1, 1, []),
  (10, .getfield 101, 3, [171, 1, 1, 0]),
  (13, .imul, 1, []),
  (14, .ishl, 1, []),
  (15, .sipush 4096, 3, []),
  (18, .invokestatic 31, 3, [11, 808, 309, 114, 310]),
  (21, .istore 5, 2, []),
  (23, .iconst 0, 1, []),
  (24, .istore 6, 2, []),
  (26, .iload 6, 2, []),
  (28, .sipush 4096, 3, []),
  (31, .if_icmp .ge 28, 3, [59]),
  (34, .aload_n 0, 1, []),
  (35, .getfield 15, 3, [255, 0, 3, 1]),
  (38, .iload 6, 2, []),
  (40, .iload 6, 2, []),
  (42, .iload 5, 2, []),
  (44, .if_icmp .ge 7, 3, [51]),
  (47, .iconst 1, 1, []),
  (48, .goto 4, 3, [52]),
  (51, .iconst 0, 1, []),
  (52, .iastore, 1, []),
  (53, .iinc 6 1, 3, []),
  (56, .goto (-30), 3, [26]),
  (59, .iload_n 3, 1, []),
  (60, .aload_n 2, 1, []),
  (61, .arraylength, 1, []),
  (62, .invokestatic 31, 3, [11, 808, 309, 114, 310]),
  (65, .iconst 1, 1, []),
  (66, .isub, 1, []),
  (67, .istore 6, 2, []),
  (69, .iload 6, 2, []),
  (71, .ifCond .lt 24, 3, [95]),
  (74, .aload_n 0, 1, []),
  (75, .aload_n 1, 1, []),
  (76, .aload_n 2, 1, []),
  (77, .iload 6, 2, []),
  (79, .iaload, 1, []),
  (80, .invokevirtual 87, 3, [0, 111, 3, 3, 0, 0, 0, 903, 905, 63, 112, 906]),
  (83, .aload_n 0, 1, []),
  (84, .iload 4, 2, []),
  (86, .invokevirtual 104, 3, [0, 112, 2, 3, 0, 0, 0, 919, 921, 66, 112, 922]),
  (89, .iinc 6 (-1), 3, []),
  (92, .goto (-23), 3, [69]),
  (95, .aload_n 0, 1, []),
  (96, .invokevirtual 91, 3, [0, 113, 1, 3, 0, 0, 0, 907, 909, 64, 112, 910]),
  (99, .ireturn, 1, [0])]
def mr114 (S : Nat → mv_Sp) (P : mv_Post) : mv_Kt := mv_R mv_DF mk114 S (0, 0) P
theorem e114_0 : mr114 S P 0 L st sh M c s = (q_isA (q_gv L 0) ∧ mr114 S P 1 L (q_gv L 0 :: st) sh M c s) := (propext (mv_R_iff (i := .aload_n 0) (len := 1) (ax := []) (by decide +kernel))).trans (q_ldA_eq (K := fun st => mr114 S P 1 L st sh M c s))
theorem e114_1 : mr114 S P 1 L st sh M c s = (q_isA (q_gv L 1) ∧ mr114 S P 2 L (q_gv L 1 :: st) sh M c s) := (propext (mv_R_iff (i := .aload_n 1) (len := 1) (ax := []) (by decide +kernel))).trans (q_ldA_eq (K := fun st => mr114 S P 2 L st sh M c s))
theorem e114_2 {v2 : Value} {v1 : Value} : mr114 S P 2 L (v2 :: v1 :: st) sh M c s = (mv_ss st ≤ 8 ∧ c ≤ 0 ∧ s ≤ 0 ∧ mv_isO sh (some v1) 3 ∧ mv_kal S 81 [v1, v2] sh M (mr114 S P) 5 L st c s) := (propext (mv_R_iff (i := .invokevirtual 36) (len := 3) (ax := [0, 81, 2, 3, 0, 0, 0, 803, 805, 46, 112, 806]) (by decide +kernel))).trans (q_call0)
theorem e114_5 {x : Int32} : mr114 S P 5 L (.int x :: st) sh M c s = (q_hs L 4 ∧ mr114 S P 7 (L.set 4 (some (.int x))) st sh M c s) := (propext (mv_R_iff (i := .istore 4) (len := 2) (ax := []) (by decide +kernel))).trans (q_st_eq (K := fun L => mr114 S P 7 L st sh M c s))
theorem e114_7 : mr114 S P 7 L st sh M c s = (mr114 S P 8 L (.int (nI 1) :: st) sh M c s) := propext (mv_R_iff (i := .iconst 1) (len := 1) (ax := []) (by decide +kernel))
theorem e114_8 : mr114 S P 8 L st sh M c s = (mr114 S P 9 L (.int (nI 2) :: st) sh M c s) := propext (mv_R_iff (i := .iconst 2) (len := 1) (ax := []) (by decide +kernel))
theorem e114_9 : mr114 S P 9 L st sh M c s = (q_isA (q_gv L 1) ∧ mr114 S P 10 L (q_gv L 1 :: st) sh M c s) := (propext (mv_R_iff (i := .aload_n 1) (len := 1) (ax := []) (by decide +kernel))).trans (q_ldA_eq (K := fun st => mr114 S P 10 L st sh M c s))
theorem e114_10 {a : Nat} : mr114 S P 10 L (.ref a :: st) sh M c s = (mv_kgf sh M a 1 0 (mr114 S P) 13 L st c s) := propext (mv_R_iff (i := .getfield 101) (len := 3) (ax := [171, 1, 1, 0]) (by decide +kernel))
theorem e114_13 {y : Int32} {x : Int32} : mr114 S P 13 L (.int y :: .int x :: st) sh M c s = (mr114 S P 14 L (.int (x * y) :: st) sh M c s) := propext (mv_R_iff (i := .imul) (len := 1) (ax := []) (by decide +kernel))
theorem e114_14 {y : Int32} {x : Int32} : mr114 S P 14 L (.int y :: .int x :: st) sh M c s = (mr114 S P 15 L (.int (x <<< (y &&& 31)) :: st) sh M c s) := propext (mv_R_iff (i := .ishl) (len := 1) (ax := []) (by decide +kernel))
theorem e114_15 : mr114 S P 15 L st sh M c s = (mr114 S P 18 L (.int (nI 4096) :: st) sh M c s) := propext (mv_R_iff (i := .sipush 4096) (len := 3) (ax := []) (by decide +kernel))
theorem e114_18 {y : Int32} {x : Int32} : mr114 S P 18 L (.int y :: .int x :: st) sh M c s = (mv_ss st + 1 + 1 ≤ 8 ∧ mr114 S P 21 L (.int (if y < x then y else x) :: st) sh M c s) := propext (mv_R_iff (i := .invokestatic 31) (len := 3) (ax := [11, 808, 309, 114, 310]) (by decide +kernel))
theorem e114_21 {x : Int32} : mr114 S P 21 L (.int x :: st) sh M c s = (q_hs L 5 ∧ mr114 S P 23 (L.set 5 (some (.int x))) st sh M c s) := (propext (mv_R_iff (i := .istore 5) (len := 2) (ax := []) (by decide +kernel))).trans (q_st_eq (K := fun L => mr114 S P 23 L st sh M c s))
theorem e114_23 : mr114 S P 23 L st sh M c s = (mr114 S P 24 L (.int (nI 0) :: st) sh M c s) := propext (mv_R_iff (i := .iconst 0) (len := 1) (ax := []) (by decide +kernel))
theorem e114_24 {x : Int32} : mr114 S P 24 L (.int x :: st) sh M c s = (q_hs L 6 ∧ mr114 S P 26 (L.set 6 (some (.int x))) st sh M c s) := (propext (mv_R_iff (i := .istore 6) (len := 2) (ax := []) (by decide +kernel))).trans (q_st_eq (K := fun L => mr114 S P 26 L st sh M c s))
theorem e114_26 : mr114 S P 26 L st sh M c s = (q_isI (q_gv L 6) ∧ mr114 S P 28 L (q_gv L 6 :: st) sh M c s) := (propext (mv_R_iff (i := .iload 6) (len := 2) (ax := []) (by decide +kernel))).trans (q_ldI_eq (K := fun st => mr114 S P 28 L st sh M c s))
theorem e114_28 : mr114 S P 28 L st sh M c s = (mr114 S P 31 L (.int (nI 4096) :: st) sh M c s) := propext (mv_R_iff (i := .sipush 4096) (len := 3) (ax := []) (by decide +kernel))
theorem e114_31 {y : Int32} {x : Int32} : mr114 S P 31 L (.int y :: .int x :: st) sh M c s = (if y ≤ x then mr114 S P 59 L st sh M c s else mr114 S P 34 L st sh M c s) := (propext (mv_R_iff (i := .if_icmp .ge 28) (len := 3) (ax := [59]) (by decide +kernel))).trans (q_br)
theorem e114_34 : mr114 S P 34 L st sh M c s = (q_isA (q_gv L 0) ∧ mr114 S P 35 L (q_gv L 0 :: st) sh M c s) := (propext (mv_R_iff (i := .aload_n 0) (len := 1) (ax := []) (by decide +kernel))).trans (q_ldA_eq (K := fun st => mr114 S P 35 L st sh M c s))
theorem e114_35 {a : Nat} : mr114 S P 35 L (.ref a :: st) sh M c s = (mv_kgf sh M a 3 1 (mr114 S P) 38 L st c s) := propext (mv_R_iff (i := .getfield 15) (len := 3) (ax := [255, 0, 3, 1]) (by decide +kernel))
theorem e114_38 : mr114 S P 38 L st sh M c s = (q_isI (q_gv L 6) ∧ mr114 S P 40 L (q_gv L 6 :: st) sh M c s) := (propext (mv_R_iff (i := .iload 6) (len := 2) (ax := []) (by decide +kernel))).trans (q_ldI_eq (K := fun st => mr114 S P 40 L st sh M c s))
theorem e114_40 : mr114 S P 40 L st sh M c s = (q_isI (q_gv L 6) ∧ mr114 S P 42 L (q_gv L 6 :: st) sh M c s) := (propext (mv_R_iff (i := .iload 6) (len := 2) (ax := []) (by decide +kernel))).trans (q_ldI_eq (K := fun st => mr114 S P 42 L st sh M c s))
theorem e114_42 : mr114 S P 42 L st sh M c s = (q_isI (q_gv L 5) ∧ mr114 S P 44 L (q_gv L 5 :: st) sh M c s) := (propext (mv_R_iff (i := .iload 5) (len := 2) (ax := []) (by decide +kernel))).trans (q_ldI_eq (K := fun st => mr114 S P 44 L st sh M c s))
theorem e114_44 {y : Int32} {x : Int32} : mr114 S P 44 L (.int y :: .int x :: st) sh M c s = (if y ≤ x then mr114 S P 51 L st sh M c s else mr114 S P 47 L st sh M c s) := (propext (mv_R_iff (i := .if_icmp .ge 7) (len := 3) (ax := [51]) (by decide +kernel))).trans (q_br)
theorem e114_47 : mr114 S P 47 L st sh M c s = (mr114 S P 48 L (.int (nI 1) :: st) sh M c s) := propext (mv_R_iff (i := .iconst 1) (len := 1) (ax := []) (by decide +kernel))
theorem e114_48 : mr114 S P 48 L st sh M c s = (mr114 S P 52 L st sh M c s) := propext (mv_R_iff (i := .goto 4) (len := 3) (ax := [52]) (by decide +kernel))
theorem e114_51 : mr114 S P 51 L st sh M c s = (mr114 S P 52 L (.int (nI 0) :: st) sh M c s) := propext (mv_R_iff (i := .iconst 0) (len := 1) (ax := []) (by decide +kernel))
theorem e114_52 {x : Int32} {i : Int32} {a : Nat} : mr114 S P 52 L (.int x :: .int i :: .ref a :: st) sh M c s = (mv_kst sh M a i x (mr114 S P) 53 L st c s) := propext (mv_R_iff (i := .iastore) (len := 1) (ax := []) (by decide +kernel))
theorem e114_53 : mr114 S P 53 L st sh M c s = ((q_isI (q_gv L 6) ∧ q_hs L 6) ∧ mr114 S P 56 (L.set 6 (some (q_inc (q_gv L 6) (nI 1)))) st sh M c s) := (propext (mv_R_iff (i := .iinc 6 1) (len := 3) (ax := []) (by decide +kernel))).trans (q_inc_eq (K := fun L => mr114 S P 56 L st sh M c s))
theorem e114_56 : mr114 S P 56 L st sh M c s = (mr114 S P 26 L st sh M c s) := propext (mv_R_iff (i := .goto (-30)) (len := 3) (ax := [26]) (by decide +kernel))
theorem e114_59 : mr114 S P 59 L st sh M c s = (q_isI (q_gv L 3) ∧ mr114 S P 60 L (q_gv L 3 :: st) sh M c s) := (propext (mv_R_iff (i := .iload_n 3) (len := 1) (ax := []) (by decide +kernel))).trans (q_ldI_eq (K := fun st => mr114 S P 60 L st sh M c s))
theorem e114_60 : mr114 S P 60 L st sh M c s = (q_isA (q_gv L 2) ∧ mr114 S P 61 L (q_gv L 2 :: st) sh M c s) := (propext (mv_R_iff (i := .aload_n 2) (len := 1) (ax := []) (by decide +kernel))).trans (q_ldA_eq (K := fun st => mr114 S P 61 L st sh M c s))
theorem e114_61 {a : Nat} : mr114 S P 61 L (.ref a :: st) sh M c s = (mv_kln sh M a (mr114 S P) 62 L st c s) := propext (mv_R_iff (i := .arraylength) (len := 1) (ax := []) (by decide +kernel))
theorem e114_62 {y : Int32} {x : Int32} : mr114 S P 62 L (.int y :: .int x :: st) sh M c s = (mv_ss st + 1 + 1 ≤ 8 ∧ mr114 S P 65 L (.int (if y < x then y else x) :: st) sh M c s) := propext (mv_R_iff (i := .invokestatic 31) (len := 3) (ax := [11, 808, 309, 114, 310]) (by decide +kernel))
theorem e114_65 : mr114 S P 65 L st sh M c s = (mr114 S P 66 L (.int (nI 1) :: st) sh M c s) := propext (mv_R_iff (i := .iconst 1) (len := 1) (ax := []) (by decide +kernel))
theorem e114_66 {y : Int32} {x : Int32} : mr114 S P 66 L (.int y :: .int x :: st) sh M c s = (mr114 S P 67 L (.int (x - y) :: st) sh M c s) := propext (mv_R_iff (i := .isub) (len := 1) (ax := []) (by decide +kernel))
theorem e114_67 {x : Int32} : mr114 S P 67 L (.int x :: st) sh M c s = (q_hs L 6 ∧ mr114 S P 69 (L.set 6 (some (.int x))) st sh M c s) := (propext (mv_R_iff (i := .istore 6) (len := 2) (ax := []) (by decide +kernel))).trans (q_st_eq (K := fun L => mr114 S P 69 L st sh M c s))
theorem e114_69 : mr114 S P 69 L st sh M c s = (q_isI (q_gv L 6) ∧ mr114 S P 71 L (q_gv L 6 :: st) sh M c s) := (propext (mv_R_iff (i := .iload 6) (len := 2) (ax := []) (by decide +kernel))).trans (q_ldI_eq (K := fun st => mr114 S P 71 L st sh M c s))
theorem e114_71 {x : Int32} : mr114 S P 71 L (.int x :: st) sh M c s = (if x < nI 0 then mr114 S P 95 L st sh M c s else mr114 S P 74 L st sh M c s) := (propext (mv_R_iff (i := .ifCond .lt 24) (len := 3) (ax := [95]) (by decide +kernel))).trans (q_br)
theorem e114_74 : mr114 S P 74 L st sh M c s = (q_isA (q_gv L 0) ∧ mr114 S P 75 L (q_gv L 0 :: st) sh M c s) := (propext (mv_R_iff (i := .aload_n 0) (len := 1) (ax := []) (by decide +kernel))).trans (q_ldA_eq (K := fun st => mr114 S P 75 L st sh M c s))
theorem e114_75 : mr114 S P 75 L st sh M c s = (q_isA (q_gv L 1) ∧ mr114 S P 76 L (q_gv L 1 :: st) sh M c s) := (propext (mv_R_iff (i := .aload_n 1) (len := 1) (ax := []) (by decide +kernel))).trans (q_ldA_eq (K := fun st => mr114 S P 76 L st sh M c s))
theorem e114_76 : mr114 S P 76 L st sh M c s = (q_isA (q_gv L 2) ∧ mr114 S P 77 L (q_gv L 2 :: st) sh M c s) := (propext (mv_R_iff (i := .aload_n 2) (len := 1) (ax := []) (by decide +kernel))).trans (q_ldA_eq (K := fun st => mr114 S P 77 L st sh M c s))
theorem e114_77 : mr114 S P 77 L st sh M c s = (q_isI (q_gv L 6) ∧ mr114 S P 79 L (q_gv L 6 :: st) sh M c s) := (propext (mv_R_iff (i := .iload 6) (len := 2) (ax := []) (by decide +kernel))).trans (q_ldI_eq (K := fun st => mr114 S P 79 L st sh M c s))
theorem e114_79 {i : Int32} {a : Nat} : mr114 S P 79 L (.int i :: .ref a :: st) sh M c s = (mv_kld sh M a i (mr114 S P) 80 L st c s) := propext (mv_R_iff (i := .iaload) (len := 1) (ax := []) (by decide +kernel))
theorem e114_80 {v3 : Value} {v2 : Value} {v1 : Value} : mr114 S P 80 L (v3 :: v2 :: v1 :: st) sh M c s = (mv_ss st ≤ 8 ∧ c ≤ 0 ∧ s ≤ 0 ∧ mv_isO sh (some v1) 3 ∧ mv_kal S 111 [v1, v2, v3] sh M (mr114 S P) 83 L st c s) := (propext (mv_R_iff (i := .invokevirtual 87) (len := 3) (ax := [0, 111, 3, 3, 0, 0, 0, 903, 905, 63, 112, 906]) (by decide +kernel))).trans (q_call0)
theorem e114_83 : mr114 S P 83 L st sh M c s = (q_isA (q_gv L 0) ∧ mr114 S P 84 L (q_gv L 0 :: st) sh M c s) := (propext (mv_R_iff (i := .aload_n 0) (len := 1) (ax := []) (by decide +kernel))).trans (q_ldA_eq (K := fun st => mr114 S P 84 L st sh M c s))
theorem e114_84 : mr114 S P 84 L st sh M c s = (q_isI (q_gv L 4) ∧ mr114 S P 86 L (q_gv L 4 :: st) sh M c s) := (propext (mv_R_iff (i := .iload 4) (len := 2) (ax := []) (by decide +kernel))).trans (q_ldI_eq (K := fun st => mr114 S P 86 L st sh M c s))
theorem e114_86 {v2 : Value} {v1 : Value} : mr114 S P 86 L (v2 :: v1 :: st) sh M c s = (mv_ss st ≤ 8 ∧ c ≤ 0 ∧ s ≤ 0 ∧ mv_isO sh (some v1) 3 ∧ mv_kal S 112 [v1, v2] sh M (mr114 S P) 89 L st c s) := (propext (mv_R_iff (i := .invokevirtual 104) (len := 3) (ax := [0, 112, 2, 3, 0, 0, 0, 919, 921, 66, 112, 922]) (by decide +kernel))).trans (q_call0)
theorem e114_89 : mr114 S P 89 L st sh M c s = ((q_isI (q_gv L 6) ∧ q_hs L 6) ∧ mr114 S P 92 (L.set 6 (some (q_inc (q_gv L 6) (Int32.ofInt (-1))))) st sh M c s) := (propext (mv_R_iff (i := .iinc 6 (-1)) (len := 3) (ax := []) (by decide +kernel))).trans (q_inc_eq (K := fun L => mr114 S P 92 L st sh M c s))
theorem e114_92 : mr114 S P 92 L st sh M c s = (mr114 S P 69 L st sh M c s) := propext (mv_R_iff (i := .goto (-23)) (len := 3) (ax := [69]) (by decide +kernel))
theorem e114_95 : mr114 S P 95 L st sh M c s = (q_isA (q_gv L 0) ∧ mr114 S P 96 L (q_gv L 0 :: st) sh M c s) := (propext (mv_R_iff (i := .aload_n 0) (len := 1) (ax := []) (by decide +kernel))).trans (q_ldA_eq (K := fun st => mr114 S P 96 L st sh M c s))
theorem e114_96 {v1 : Value} : mr114 S P 96 L (v1 :: st) sh M c s = (mv_ss st ≤ 8 ∧ c ≤ 0 ∧ s ≤ 0 ∧ mv_isO sh (some v1) 3 ∧ mv_kal S 113 [v1] sh M (mr114 S P) 99 L st c s) := (propext (mv_R_iff (i := .invokevirtual 91) (len := 3) (ax := [0, 113, 1, 3, 0, 0, 0, 907, 909, 64, 112, 910]) (by decide +kernel))).trans (q_call0)
theorem e114_99 {x : Int32} : mr114 S P 99 L [.int x] sh M c s = (mv_nr 0 x ∧ P (some (.int x)) sh M) := propext (mv_R_iff (i := .ireturn) (len := 1) (ax := [0]) (by decide +kernel))
-- 116: Search.reaches(LTurnedTablets$Loom;III)Z
def mk116 : mv_Cd := [
  (0, .aload_n 0, 1, []),
  (1, .aload_n 1, 1, []),
  (2, .iload_n 2, 1, []),
  (3, .iload_n 3, 1, []),
  (4, .invokevirtual 76, 3, [0, 87, 4, 3, 0, 0, 0, 875, 853, 56, 112, 854]),
  (7, .iconst 0, 1, []),
  (8, .istore 5, 2, []),
  (10, .iload 5, 2, []),
  (12, .aload_n 0, 1, []),
  (13, .getfield 44, 3, [257, 0, 3, 3]),
  (16, .if_icmp .ge 35, 3, [51]),
  (19, .iload 5, 2, []),
  (21, .sipush 4096, 3, []),
  (24, .if_icmp .ge 27, 3, [51]),
  (27, .aload_n 1, 1, []),
  (28, .aload_n 0, 1, []),
  (29, .getfield 9, 3, [254, 0, 3, 0]),
  (32, .iload 5, 2, []),
  (34, .iaload, 1, []),
  (35, .iload 4, 2, []),
  (37, .invokevirtual 47, 3, [1, 74, 3, 1, 0, 0, 818, 820, 49, 109, 821]),
  (40, .ifCond .eq 5, 3, [45]),
  (43, .iconst 1, 1, []),
  (44, .ireturn, 1, [1]),
  (45, .iinc 5 1, 3, []),
  (48, .goto (-38), 3, [10]),
  (51, .iconst 0, 1, []),
  (52, .ireturn, 1, [1])]
def mr116 (S : Nat → mv_Sp) (P : mv_Post) : mv_Kt := mv_R mv_DF mk116 S (0, 0) P
theorem e116_0 : mr116 S P 0 L st sh M c s = (q_isA (q_gv L 0) ∧ mr116 S P 1 L (q_gv L 0 :: st) sh M c s) := (propext (mv_R_iff (i := .aload_n 0) (len := 1) (ax := []) (by decide +kernel))).trans (q_ldA_eq (K := fun st => mr116 S P 1 L st sh M c s))
theorem e116_1 : mr116 S P 1 L st sh M c s = (q_isA (q_gv L 1) ∧ mr116 S P 2 L (q_gv L 1 :: st) sh M c s) := (propext (mv_R_iff (i := .aload_n 1) (len := 1) (ax := []) (by decide +kernel))).trans (q_ldA_eq (K := fun st => mr116 S P 2 L st sh M c s))
theorem e116_2 : mr116 S P 2 L st sh M c s = (q_isI (q_gv L 2) ∧ mr116 S P 3 L (q_gv L 2 :: st) sh M c s) := (propext (mv_R_iff (i := .iload_n 2) (len := 1) (ax := []) (by decide +kernel))).trans (q_ldI_eq (K := fun st => mr116 S P 3 L st sh M c s))
theorem e116_3 : mr116 S P 3 L st sh M c s = (q_isI (q_gv L 3) ∧ mr116 S P 4 L (q_gv L 3 :: st) sh M c s) := (propext (mv_R_iff (i := .iload_n 3) (len := 1) (ax := []) (by decide +kernel))).trans (q_ldI_eq (K := fun st => mr116 S P 4 L st sh M c s))
theorem e116_4 {v4 : Value} {v3 : Value} {v2 : Value} {v1 : Value} : mr116 S P 4 L (v4 :: v3 :: v2 :: v1 :: st) sh M c s = (mv_ss st ≤ 8 ∧ c ≤ 0 ∧ s ≤ 0 ∧ mv_isO sh (some v1) 3 ∧ mv_kal S 87 [v1, v2, v3, v4] sh M (mr116 S P) 7 L st c s) := (propext (mv_R_iff (i := .invokevirtual 76) (len := 3) (ax := [0, 87, 4, 3, 0, 0, 0, 875, 853, 56, 112, 854]) (by decide +kernel))).trans (q_call0)
theorem e116_7 : mr116 S P 7 L st sh M c s = (mr116 S P 8 L (.int (nI 0) :: st) sh M c s) := propext (mv_R_iff (i := .iconst 0) (len := 1) (ax := []) (by decide +kernel))
theorem e116_8 {x : Int32} : mr116 S P 8 L (.int x :: st) sh M c s = (q_hs L 5 ∧ mr116 S P 10 (L.set 5 (some (.int x))) st sh M c s) := (propext (mv_R_iff (i := .istore 5) (len := 2) (ax := []) (by decide +kernel))).trans (q_st_eq (K := fun L => mr116 S P 10 L st sh M c s))
theorem e116_10 : mr116 S P 10 L st sh M c s = (q_isI (q_gv L 5) ∧ mr116 S P 12 L (q_gv L 5 :: st) sh M c s) := (propext (mv_R_iff (i := .iload 5) (len := 2) (ax := []) (by decide +kernel))).trans (q_ldI_eq (K := fun st => mr116 S P 12 L st sh M c s))
theorem e116_12 : mr116 S P 12 L st sh M c s = (q_isA (q_gv L 0) ∧ mr116 S P 13 L (q_gv L 0 :: st) sh M c s) := (propext (mv_R_iff (i := .aload_n 0) (len := 1) (ax := []) (by decide +kernel))).trans (q_ldA_eq (K := fun st => mr116 S P 13 L st sh M c s))
theorem e116_13 {a : Nat} : mr116 S P 13 L (.ref a :: st) sh M c s = (mv_kgf sh M a 3 3 (mr116 S P) 16 L st c s) := propext (mv_R_iff (i := .getfield 44) (len := 3) (ax := [257, 0, 3, 3]) (by decide +kernel))
theorem e116_16 {y : Int32} {x : Int32} : mr116 S P 16 L (.int y :: .int x :: st) sh M c s = (if y ≤ x then mr116 S P 51 L st sh M c s else mr116 S P 19 L st sh M c s) := (propext (mv_R_iff (i := .if_icmp .ge 35) (len := 3) (ax := [51]) (by decide +kernel))).trans (q_br)
theorem e116_19 : mr116 S P 19 L st sh M c s = (q_isI (q_gv L 5) ∧ mr116 S P 21 L (q_gv L 5 :: st) sh M c s) := (propext (mv_R_iff (i := .iload 5) (len := 2) (ax := []) (by decide +kernel))).trans (q_ldI_eq (K := fun st => mr116 S P 21 L st sh M c s))
theorem e116_21 : mr116 S P 21 L st sh M c s = (mr116 S P 24 L (.int (nI 4096) :: st) sh M c s) := propext (mv_R_iff (i := .sipush 4096) (len := 3) (ax := []) (by decide +kernel))
theorem e116_24 {y : Int32} {x : Int32} : mr116 S P 24 L (.int y :: .int x :: st) sh M c s = (if y ≤ x then mr116 S P 51 L st sh M c s else mr116 S P 27 L st sh M c s) := (propext (mv_R_iff (i := .if_icmp .ge 27) (len := 3) (ax := [51]) (by decide +kernel))).trans (q_br)
theorem e116_27 : mr116 S P 27 L st sh M c s = (q_isA (q_gv L 1) ∧ mr116 S P 28 L (q_gv L 1 :: st) sh M c s) := (propext (mv_R_iff (i := .aload_n 1) (len := 1) (ax := []) (by decide +kernel))).trans (q_ldA_eq (K := fun st => mr116 S P 28 L st sh M c s))
theorem e116_28 : mr116 S P 28 L st sh M c s = (q_isA (q_gv L 0) ∧ mr116 S P 29 L (q_gv L 0 :: st) sh M c s) := (propext (mv_R_iff (i := .aload_n 0) (len := 1) (ax := []) (by decide +kernel))).trans (q_ldA_eq (K := fun st => mr116 S P 29 L st sh M c s))
theorem e116_29 {a : Nat} : mr116 S P 29 L (.ref a :: st) sh M c s = (mv_kgf sh M a 3 0 (mr116 S P) 32 L st c s) := propext (mv_R_iff (i := .getfield 9) (len := 3) (ax := [254, 0, 3, 0]) (by decide +kernel))
theorem e116_32 : mr116 S P 32 L st sh M c s = (q_isI (q_gv L 5) ∧ mr116 S P 34 L (q_gv L 5 :: st) sh M c s) := (propext (mv_R_iff (i := .iload 5) (len := 2) (ax := []) (by decide +kernel))).trans (q_ldI_eq (K := fun st => mr116 S P 34 L st sh M c s))
theorem e116_34 {i : Int32} {a : Nat} : mr116 S P 34 L (.int i :: .ref a :: st) sh M c s = (mv_kld sh M a i (mr116 S P) 35 L st c s) := propext (mv_R_iff (i := .iaload) (len := 1) (ax := []) (by decide +kernel))
theorem e116_35 : mr116 S P 35 L st sh M c s = (q_isI (q_gv L 4) ∧ mr116 S P 37 L (q_gv L 4 :: st) sh M c s) := (propext (mv_R_iff (i := .iload 4) (len := 2) (ax := []) (by decide +kernel))).trans (q_ldI_eq (K := fun st => mr116 S P 37 L st sh M c s))
theorem e116_37 {v3 : Value} {v2 : Value} {v1 : Value} : mr116 S P 37 L (v3 :: v2 :: v1 :: st) sh M c s = (mv_ss st ≤ 8 ∧ c ≤ 0 ∧ s ≤ 0 ∧ mv_isO sh (some v1) 1 ∧ mv_kal S 74 [v1, v2, v3] sh M (mr116 S P) 40 L st c s) := (propext (mv_R_iff (i := .invokevirtual 47) (len := 3) (ax := [1, 74, 3, 1, 0, 0, 818, 820, 49, 109, 821]) (by decide +kernel))).trans (q_call1)
theorem e116_40 {x : Int32} : mr116 S P 40 L (.int x :: st) sh M c s = (if x = nI 0 then mr116 S P 45 L st sh M c s else mr116 S P 43 L st sh M c s) := (propext (mv_R_iff (i := .ifCond .eq 5) (len := 3) (ax := [45]) (by decide +kernel))).trans (q_br)
theorem e116_43 : mr116 S P 43 L st sh M c s = (mr116 S P 44 L (.int (nI 1) :: st) sh M c s) := propext (mv_R_iff (i := .iconst 1) (len := 1) (ax := []) (by decide +kernel))
theorem e116_44 {x : Int32} : mr116 S P 44 L [.int x] sh M c s = (mv_nr 1 x ∧ P (some (.int x)) sh M) := propext (mv_R_iff (i := .ireturn) (len := 1) (ax := [1]) (by decide +kernel))
theorem e116_45 : mr116 S P 45 L st sh M c s = ((q_isI (q_gv L 5) ∧ q_hs L 5) ∧ mr116 S P 48 (L.set 5 (some (q_inc (q_gv L 5) (nI 1)))) st sh M c s) := (propext (mv_R_iff (i := .iinc 5 1) (len := 3) (ax := []) (by decide +kernel))).trans (q_inc_eq (K := fun L => mr116 S P 48 L st sh M c s))
theorem e116_48 : mr116 S P 48 L st sh M c s = (mr116 S P 10 L st sh M c s) := propext (mv_R_iff (i := .goto (-38)) (len := 3) (ax := [10]) (by decide +kernel))
theorem e116_51 : mr116 S P 51 L st sh M c s = (mr116 S P 52 L (.int (nI 0) :: st) sh M c s) := propext (mv_R_iff (i := .iconst 0) (len := 1) (ax := []) (by decide +kernel))
theorem e116_52 {x : Int32} : mr116 S P 52 L [.int x] sh M c s = (mv_nr 1 x ∧ P (some (.int x)) sh M) := propext (mv_R_iff (i := .ireturn) (len := 1) (ax := [1]) (by decide +kernel))
-- 134: Search.goOn(I)V
def mk134 : mv_Cd := [
  (0, .aload_n 0, 1, []),
  (1, .getfield 15, 3, [255, 0, 3, 1]),
  (4, .iconst 0, 1, []),
  (5, .aload_n 0, 1, []),
  (6, .getfield 9, 3, [254, 0, 3, 0]),
  (9, .iconst 0, 1, []),
  (10, .sipush 4096, 3, []),
  (13, .invokestatic 95, 3, [10, 902, 313, 312, 116]),
  (16, .aload_n 0, 1, []),
  (17, .getfield 15, 3, [255, 0, 3, 1]),
  (20, .iconst 0, 1, []),
  (21, .invokestatic 60, 3, [3, 42, 2, 0, 0, 0, 0, 813, 493, 115, 494]),
  (24, .iconst 0, 1, []),
  (25, .istore_n 2, 1, []),
  (26, .iload_n 2, 1, []),
  (27, .sipush 4096, 3, []),
  (30, .if_icmp .ge 68, 3, [98]),
  (33, .iconst 0, 1, []),
  (34, .istore_n 3, 1, []),
  (35, .iload_n 3, 1, []),
  (36, .iload_n 1, 1, []),
  (37, .if_icmp .ge 55, 3, [92]),
  (40, .aload_n 0, 1, []),
  (41, .getfield 9, 3, [254, 0, 3, 0]),
  (44, .iload_n 2, 1, []),
  (45, .iaload, 1, []),
  (46, .ifCond .le 46, 3, [92]),
  (49, .aload_n 0, 1, []),
  (50, .iload_n 2, 1, []),
  (51, .iload_n 3, 1, []),
  (52, .invokevirtual 51, 3, [0, 84, 3, 3, 0, 0, 0, 822, 824, 50, 112, 825]),
  (55, .istore 4, 2, []),
  (57, .iload 4, 2, []),
  (59, .ifCond .lt 27, 3, [86]),
  (62, .iload 4, 2, []),
  (64, .sipush 4096, 3, []),
  (67, .if_icmp .ge 19, 3, [86]),
  (70, .aload_n 0, 1, []),
  (71, .getfield 15, 3, [255, 0, 3, 1]),
  (74, .iload 4, 2, []),
  (76, .dup2, 1, []),
  (77, .iaload, 1, []),
  (78, .aload_n 0, 1, []),
  (79, .getfield 9, 3, [254, 0, 3, 0]),
  (82, .iload_n 2, 1, []),
  (83, .iaload, 1, []),
  (84, .iadd, 1, []),
  (85, .iastore, 1, []),
  (86, .iinc 3 1, 3, []),
  (89, .goto (-54), 3, [35]),
  (92, .iinc 2 1, 3, []),
  (95, .goto (-69), 3, [26]),
  (98, .return_, 1, [])]
def mr134 (S : Nat → mv_Sp) (P : mv_Post) : mv_Kt := mv_R mv_DF mk134 S (0, 0) P
theorem e134_0 : mr134 S P 0 L st sh M c s = (q_isA (q_gv L 0) ∧ mr134 S P 1 L (q_gv L 0 :: st) sh M c s) := (propext (mv_R_iff (i := .aload_n 0) (len := 1) (ax := []) (by decide +kernel))).trans (q_ldA_eq (K := fun st => mr134 S P 1 L st sh M c s))
theorem e134_1 {a : Nat} : mr134 S P 1 L (.ref a :: st) sh M c s = (mv_kgf sh M a 3 1 (mr134 S P) 4 L st c s) := propext (mv_R_iff (i := .getfield 15) (len := 3) (ax := [255, 0, 3, 1]) (by decide +kernel))
theorem e134_4 : mr134 S P 4 L st sh M c s = (mr134 S P 5 L (.int (nI 0) :: st) sh M c s) := propext (mv_R_iff (i := .iconst 0) (len := 1) (ax := []) (by decide +kernel))
theorem e134_5 : mr134 S P 5 L st sh M c s = (q_isA (q_gv L 0) ∧ mr134 S P 6 L (q_gv L 0 :: st) sh M c s) := (propext (mv_R_iff (i := .aload_n 0) (len := 1) (ax := []) (by decide +kernel))).trans (q_ldA_eq (K := fun st => mr134 S P 6 L st sh M c s))
theorem e134_6 {a : Nat} : mr134 S P 6 L (.ref a :: st) sh M c s = (mv_kgf sh M a 3 0 (mr134 S P) 9 L st c s) := propext (mv_R_iff (i := .getfield 9) (len := 3) (ax := [254, 0, 3, 0]) (by decide +kernel))
theorem e134_9 : mr134 S P 9 L st sh M c s = (mr134 S P 10 L (.int (nI 0) :: st) sh M c s) := propext (mv_R_iff (i := .iconst 0) (len := 1) (ax := []) (by decide +kernel))
theorem e134_10 : mr134 S P 10 L st sh M c s = (mr134 S P 13 L (.int (nI 4096) :: st) sh M c s) := propext (mv_R_iff (i := .sipush 4096) (len := 3) (ax := []) (by decide +kernel))
theorem e134_13 {n : Int32} {dp : Int32} {d : Nat} {sp : Int32} {a : Nat} : mr134 S P 13 L (.int n :: .int dp :: .ref d :: .int sp :: .ref a :: st) sh M c s = (mv_kcp sh M a sp d dp n (mr134 S P) 16 L st c s) := propext (mv_R_iff (i := .invokestatic 95) (len := 3) (ax := [10, 902, 313, 312, 116]) (by decide +kernel))
theorem e134_16 : mr134 S P 16 L st sh M c s = (q_isA (q_gv L 0) ∧ mr134 S P 17 L (q_gv L 0 :: st) sh M c s) := (propext (mv_R_iff (i := .aload_n 0) (len := 1) (ax := []) (by decide +kernel))).trans (q_ldA_eq (K := fun st => mr134 S P 17 L st sh M c s))
theorem e134_17 {a : Nat} : mr134 S P 17 L (.ref a :: st) sh M c s = (mv_kgf sh M a 3 1 (mr134 S P) 20 L st c s) := propext (mv_R_iff (i := .getfield 15) (len := 3) (ax := [255, 0, 3, 1]) (by decide +kernel))
theorem e134_20 : mr134 S P 20 L st sh M c s = (mr134 S P 21 L (.int (nI 0) :: st) sh M c s) := propext (mv_R_iff (i := .iconst 0) (len := 1) (ax := []) (by decide +kernel))
theorem e134_21 {v2 : Value} {v1 : Value} : mr134 S P 21 L (v2 :: v1 :: st) sh M c s = (mv_ss st ≤ 8 ∧ c ≤ 0 ∧ s ≤ 0 ∧ True ∧ mv_kal S 42 [v1, v2] sh M (mr134 S P) 24 L st c s) := (propext (mv_R_iff (i := .invokestatic 60) (len := 3) (ax := [3, 42, 2, 0, 0, 0, 0, 813, 493, 115, 494]) (by decide +kernel))).trans (q_call3)
theorem e134_24 : mr134 S P 24 L st sh M c s = (mr134 S P 25 L (.int (nI 0) :: st) sh M c s) := propext (mv_R_iff (i := .iconst 0) (len := 1) (ax := []) (by decide +kernel))
theorem e134_25 {x : Int32} : mr134 S P 25 L (.int x :: st) sh M c s = (q_hs L 2 ∧ mr134 S P 26 (L.set 2 (some (.int x))) st sh M c s) := (propext (mv_R_iff (i := .istore_n 2) (len := 1) (ax := []) (by decide +kernel))).trans (q_st_eq (K := fun L => mr134 S P 26 L st sh M c s))
theorem e134_26 : mr134 S P 26 L st sh M c s = (q_isI (q_gv L 2) ∧ mr134 S P 27 L (q_gv L 2 :: st) sh M c s) := (propext (mv_R_iff (i := .iload_n 2) (len := 1) (ax := []) (by decide +kernel))).trans (q_ldI_eq (K := fun st => mr134 S P 27 L st sh M c s))
theorem e134_27 : mr134 S P 27 L st sh M c s = (mr134 S P 30 L (.int (nI 4096) :: st) sh M c s) := propext (mv_R_iff (i := .sipush 4096) (len := 3) (ax := []) (by decide +kernel))
theorem e134_30 {y : Int32} {x : Int32} : mr134 S P 30 L (.int y :: .int x :: st) sh M c s = (if y ≤ x then mr134 S P 98 L st sh M c s else mr134 S P 33 L st sh M c s) := (propext (mv_R_iff (i := .if_icmp .ge 68) (len := 3) (ax := [98]) (by decide +kernel))).trans (q_br)
theorem e134_33 : mr134 S P 33 L st sh M c s = (mr134 S P 34 L (.int (nI 0) :: st) sh M c s) := propext (mv_R_iff (i := .iconst 0) (len := 1) (ax := []) (by decide +kernel))
theorem e134_34 {x : Int32} : mr134 S P 34 L (.int x :: st) sh M c s = (q_hs L 3 ∧ mr134 S P 35 (L.set 3 (some (.int x))) st sh M c s) := (propext (mv_R_iff (i := .istore_n 3) (len := 1) (ax := []) (by decide +kernel))).trans (q_st_eq (K := fun L => mr134 S P 35 L st sh M c s))
theorem e134_35 : mr134 S P 35 L st sh M c s = (q_isI (q_gv L 3) ∧ mr134 S P 36 L (q_gv L 3 :: st) sh M c s) := (propext (mv_R_iff (i := .iload_n 3) (len := 1) (ax := []) (by decide +kernel))).trans (q_ldI_eq (K := fun st => mr134 S P 36 L st sh M c s))
theorem e134_36 : mr134 S P 36 L st sh M c s = (q_isI (q_gv L 1) ∧ mr134 S P 37 L (q_gv L 1 :: st) sh M c s) := (propext (mv_R_iff (i := .iload_n 1) (len := 1) (ax := []) (by decide +kernel))).trans (q_ldI_eq (K := fun st => mr134 S P 37 L st sh M c s))
theorem e134_37 {y : Int32} {x : Int32} : mr134 S P 37 L (.int y :: .int x :: st) sh M c s = (if y ≤ x then mr134 S P 92 L st sh M c s else mr134 S P 40 L st sh M c s) := (propext (mv_R_iff (i := .if_icmp .ge 55) (len := 3) (ax := [92]) (by decide +kernel))).trans (q_br)
theorem e134_40 : mr134 S P 40 L st sh M c s = (q_isA (q_gv L 0) ∧ mr134 S P 41 L (q_gv L 0 :: st) sh M c s) := (propext (mv_R_iff (i := .aload_n 0) (len := 1) (ax := []) (by decide +kernel))).trans (q_ldA_eq (K := fun st => mr134 S P 41 L st sh M c s))
theorem e134_41 {a : Nat} : mr134 S P 41 L (.ref a :: st) sh M c s = (mv_kgf sh M a 3 0 (mr134 S P) 44 L st c s) := propext (mv_R_iff (i := .getfield 9) (len := 3) (ax := [254, 0, 3, 0]) (by decide +kernel))
theorem e134_44 : mr134 S P 44 L st sh M c s = (q_isI (q_gv L 2) ∧ mr134 S P 45 L (q_gv L 2 :: st) sh M c s) := (propext (mv_R_iff (i := .iload_n 2) (len := 1) (ax := []) (by decide +kernel))).trans (q_ldI_eq (K := fun st => mr134 S P 45 L st sh M c s))
theorem e134_45 {i : Int32} {a : Nat} : mr134 S P 45 L (.int i :: .ref a :: st) sh M c s = (mv_kld sh M a i (mr134 S P) 46 L st c s) := propext (mv_R_iff (i := .iaload) (len := 1) (ax := []) (by decide +kernel))
theorem e134_46 {x : Int32} : mr134 S P 46 L (.int x :: st) sh M c s = (if x ≤ nI 0 then mr134 S P 92 L st sh M c s else mr134 S P 49 L st sh M c s) := (propext (mv_R_iff (i := .ifCond .le 46) (len := 3) (ax := [92]) (by decide +kernel))).trans (q_br)
theorem e134_49 : mr134 S P 49 L st sh M c s = (q_isA (q_gv L 0) ∧ mr134 S P 50 L (q_gv L 0 :: st) sh M c s) := (propext (mv_R_iff (i := .aload_n 0) (len := 1) (ax := []) (by decide +kernel))).trans (q_ldA_eq (K := fun st => mr134 S P 50 L st sh M c s))
theorem e134_50 : mr134 S P 50 L st sh M c s = (q_isI (q_gv L 2) ∧ mr134 S P 51 L (q_gv L 2 :: st) sh M c s) := (propext (mv_R_iff (i := .iload_n 2) (len := 1) (ax := []) (by decide +kernel))).trans (q_ldI_eq (K := fun st => mr134 S P 51 L st sh M c s))
theorem e134_51 : mr134 S P 51 L st sh M c s = (q_isI (q_gv L 3) ∧ mr134 S P 52 L (q_gv L 3 :: st) sh M c s) := (propext (mv_R_iff (i := .iload_n 3) (len := 1) (ax := []) (by decide +kernel))).trans (q_ldI_eq (K := fun st => mr134 S P 52 L st sh M c s))
theorem e134_52 {v3 : Value} {v2 : Value} {v1 : Value} : mr134 S P 52 L (v3 :: v2 :: v1 :: st) sh M c s = (mv_ss st ≤ 8 ∧ c ≤ 0 ∧ s ≤ 0 ∧ mv_isO sh (some v1) 3 ∧ mv_kal S 84 [v1, v2, v3] sh M (mr134 S P) 55 L st c s) := (propext (mv_R_iff (i := .invokevirtual 51) (len := 3) (ax := [0, 84, 3, 3, 0, 0, 0, 822, 824, 50, 112, 825]) (by decide +kernel))).trans (q_call0)
theorem e134_55 {x : Int32} : mr134 S P 55 L (.int x :: st) sh M c s = (q_hs L 4 ∧ mr134 S P 57 (L.set 4 (some (.int x))) st sh M c s) := (propext (mv_R_iff (i := .istore 4) (len := 2) (ax := []) (by decide +kernel))).trans (q_st_eq (K := fun L => mr134 S P 57 L st sh M c s))
theorem e134_57 : mr134 S P 57 L st sh M c s = (q_isI (q_gv L 4) ∧ mr134 S P 59 L (q_gv L 4 :: st) sh M c s) := (propext (mv_R_iff (i := .iload 4) (len := 2) (ax := []) (by decide +kernel))).trans (q_ldI_eq (K := fun st => mr134 S P 59 L st sh M c s))
theorem e134_59 {x : Int32} : mr134 S P 59 L (.int x :: st) sh M c s = (if x < nI 0 then mr134 S P 86 L st sh M c s else mr134 S P 62 L st sh M c s) := (propext (mv_R_iff (i := .ifCond .lt 27) (len := 3) (ax := [86]) (by decide +kernel))).trans (q_br)
theorem e134_62 : mr134 S P 62 L st sh M c s = (q_isI (q_gv L 4) ∧ mr134 S P 64 L (q_gv L 4 :: st) sh M c s) := (propext (mv_R_iff (i := .iload 4) (len := 2) (ax := []) (by decide +kernel))).trans (q_ldI_eq (K := fun st => mr134 S P 64 L st sh M c s))
theorem e134_64 : mr134 S P 64 L st sh M c s = (mr134 S P 67 L (.int (nI 4096) :: st) sh M c s) := propext (mv_R_iff (i := .sipush 4096) (len := 3) (ax := []) (by decide +kernel))
theorem e134_67 {y : Int32} {x : Int32} : mr134 S P 67 L (.int y :: .int x :: st) sh M c s = (if y ≤ x then mr134 S P 86 L st sh M c s else mr134 S P 70 L st sh M c s) := (propext (mv_R_iff (i := .if_icmp .ge 19) (len := 3) (ax := [86]) (by decide +kernel))).trans (q_br)
theorem e134_70 : mr134 S P 70 L st sh M c s = (q_isA (q_gv L 0) ∧ mr134 S P 71 L (q_gv L 0 :: st) sh M c s) := (propext (mv_R_iff (i := .aload_n 0) (len := 1) (ax := []) (by decide +kernel))).trans (q_ldA_eq (K := fun st => mr134 S P 71 L st sh M c s))
theorem e134_71 {a : Nat} : mr134 S P 71 L (.ref a :: st) sh M c s = (mv_kgf sh M a 3 1 (mr134 S P) 74 L st c s) := propext (mv_R_iff (i := .getfield 15) (len := 3) (ax := [255, 0, 3, 1]) (by decide +kernel))
theorem e134_74 : mr134 S P 74 L st sh M c s = (q_isI (q_gv L 4) ∧ mr134 S P 76 L (q_gv L 4 :: st) sh M c s) := (propext (mv_R_iff (i := .iload 4) (len := 2) (ax := []) (by decide +kernel))).trans (q_ldI_eq (K := fun st => mr134 S P 76 L st sh M c s))
theorem e134_76 {x : Int32} {y : Int32} : mr134 S P 76 L (.int x :: .int y :: st) sh M c s = (mr134 S P 77 L (.int x :: .int y :: .int x :: .int y :: st) sh M c s) := propext (mv_R_iff (i := .dup2) (len := 1) (ax := []) (by decide +kernel))
theorem e134_76q {x : Int32} {y : Nat} : mr134 S P 76 L (.int x :: .ref y :: st) sh M c s = (mr134 S P 77 L (.int x :: .ref y :: .int x :: .ref y :: st) sh M c s) := propext (mv_R_iff (i := .dup2) (len := 1) (ax := []) (by decide +kernel))
theorem e134_76r {x : Nat} {y : Int32} : mr134 S P 76 L (.ref x :: .int y :: st) sh M c s = (mr134 S P 77 L (.ref x :: .int y :: .ref x :: .int y :: st) sh M c s) := propext (mv_R_iff (i := .dup2) (len := 1) (ax := []) (by decide +kernel))
theorem e134_76rq {x : Nat} {y : Nat} : mr134 S P 76 L (.ref x :: .ref y :: st) sh M c s = (mr134 S P 77 L (.ref x :: .ref y :: .ref x :: .ref y :: st) sh M c s) := propext (mv_R_iff (i := .dup2) (len := 1) (ax := []) (by decide +kernel))
theorem e134_77 {i : Int32} {a : Nat} : mr134 S P 77 L (.int i :: .ref a :: st) sh M c s = (mv_kld sh M a i (mr134 S P) 78 L st c s) := propext (mv_R_iff (i := .iaload) (len := 1) (ax := []) (by decide +kernel))
theorem e134_78 : mr134 S P 78 L st sh M c s = (q_isA (q_gv L 0) ∧ mr134 S P 79 L (q_gv L 0 :: st) sh M c s) := (propext (mv_R_iff (i := .aload_n 0) (len := 1) (ax := []) (by decide +kernel))).trans (q_ldA_eq (K := fun st => mr134 S P 79 L st sh M c s))
theorem e134_79 {a : Nat} : mr134 S P 79 L (.ref a :: st) sh M c s = (mv_kgf sh M a 3 0 (mr134 S P) 82 L st c s) := propext (mv_R_iff (i := .getfield 9) (len := 3) (ax := [254, 0, 3, 0]) (by decide +kernel))
theorem e134_82 : mr134 S P 82 L st sh M c s = (q_isI (q_gv L 2) ∧ mr134 S P 83 L (q_gv L 2 :: st) sh M c s) := (propext (mv_R_iff (i := .iload_n 2) (len := 1) (ax := []) (by decide +kernel))).trans (q_ldI_eq (K := fun st => mr134 S P 83 L st sh M c s))
theorem e134_83 {i : Int32} {a : Nat} : mr134 S P 83 L (.int i :: .ref a :: st) sh M c s = (mv_kld sh M a i (mr134 S P) 84 L st c s) := propext (mv_R_iff (i := .iaload) (len := 1) (ax := []) (by decide +kernel))
theorem e134_84 {y : Int32} {x : Int32} : mr134 S P 84 L (.int y :: .int x :: st) sh M c s = (mr134 S P 85 L (.int (x + y) :: st) sh M c s) := propext (mv_R_iff (i := .iadd) (len := 1) (ax := []) (by decide +kernel))
theorem e134_85 {x : Int32} {i : Int32} {a : Nat} : mr134 S P 85 L (.int x :: .int i :: .ref a :: st) sh M c s = (mv_kst sh M a i x (mr134 S P) 86 L st c s) := propext (mv_R_iff (i := .iastore) (len := 1) (ax := []) (by decide +kernel))
theorem e134_86 : mr134 S P 86 L st sh M c s = ((q_isI (q_gv L 3) ∧ q_hs L 3) ∧ mr134 S P 89 (L.set 3 (some (q_inc (q_gv L 3) (nI 1)))) st sh M c s) := (propext (mv_R_iff (i := .iinc 3 1) (len := 3) (ax := []) (by decide +kernel))).trans (q_inc_eq (K := fun L => mr134 S P 89 L st sh M c s))
theorem e134_89 : mr134 S P 89 L st sh M c s = (mr134 S P 35 L st sh M c s) := propext (mv_R_iff (i := .goto (-54)) (len := 3) (ax := [35]) (by decide +kernel))
theorem e134_92 : mr134 S P 92 L st sh M c s = ((q_isI (q_gv L 2) ∧ q_hs L 2) ∧ mr134 S P 95 (L.set 2 (some (q_inc (q_gv L 2) (nI 1)))) st sh M c s) := (propext (mv_R_iff (i := .iinc 2 1) (len := 3) (ax := []) (by decide +kernel))).trans (q_inc_eq (K := fun L => mr134 S P 95 L st sh M c s))
theorem e134_95 : mr134 S P 95 L st sh M c s = (mr134 S P 26 L st sh M c s) := propext (mv_R_iff (i := .goto (-69)) (len := 3) (ax := [26]) (by decide +kernel))
theorem e134_98 : mr134 S P 98 L [] sh M c s = (P none sh M) := propext (mv_R_iff (i := .return_) (len := 1) (ax := []) (by decide +kernel))
-- 135: Search.countWays(LTurnedTablets$Loom;I[II)I
def mk135 : mv_Cd := [
  (0, .aload_n 0, 1, []),
  (1, .aload_n 1, 1, []),
  (2, .invokevirtual 36, 3, [0, 81, 2, 3, 0, 0, 0, 803, 805, 46, 112, 806]),
  (5, .istore 5, 2, []),
  (7, .aload_n 0, 1, []),
  (8, .getfield 15, 3, [255, 0, 3, 1]),
  (11, .iconst 0, 1, []),
  (12, .invokestatic 60, 3, [3, 42, 2, 0, 0, 0, 0, 813, 493, 115, 494]),
  (15, .iload_n 2, 1, []),
  (16, .ifCond .lt 17, 3, [33]),
  (19, .iload_n 2, 1, []),
  (20, .sipush 4096, 3, []),
  (23, .if_icmp .ge 10, 3, [33]),
  (26, .aload_n 0, 1, []),
  (27, .getfield 15, 3, [255, 0, 3, 1]),
  (30, .iload_n 2, 1, []),
  (31, .iconst 1, 1, []),
  (32, .iastore, 1, []),
  (33, .iconst 0, 1, []),
  (34, .istore 6, 2, []),
  (36, .iload 6, 2, []),
  (38, .iload 4, 2, []),
  (40, .if_icmp .ge 31, 3, [71]),
  (43, .iload 6, 2, []),
  (45, .aload_n 3, 1, []),
  (46, .arraylength, 1, []),
  (47, .if_icmp .ge 24, 3, [71]),
  (50, .aload_n 0, 1, []),
  (51, .iload 5, 2, []),
  (53, .invokevirtual 83, 3, [0, 134, 2, 3, 0, 0, 0, 898, 900, 62, 112, 901]),
  (56, .aload_n 0, 1, []),
  (57, .aload_n 1, 1, []),
  (58, .aload_n 3, 1, []),
  (59, .iload 6, 2, []),
  (61, .iaload, 1, []),
  (62, .invokevirtual 87, 3, [0, 111, 3, 3, 0, 0, 0, 903, 905, 63, 112, 906]),
  (65, .iinc 6 1, 3, []),
  (68, .goto (-32), 3, [36]),
  (71, .aload_n 0, 1, []),
  (72, .invokevirtual 91, 3, [0, 113, 1, 3, 0, 0, 0, 907, 909, 64, 112, 910]),
  (75, .ireturn, 1, [0])]
def mr135 (S : Nat → mv_Sp) (P : mv_Post) : mv_Kt := mv_R mv_DF mk135 S (0, 0) P
theorem e135_0 : mr135 S P 0 L st sh M c s = (q_isA (q_gv L 0) ∧ mr135 S P 1 L (q_gv L 0 :: st) sh M c s) := (propext (mv_R_iff (i := .aload_n 0) (len := 1) (ax := []) (by decide +kernel))).trans (q_ldA_eq (K := fun st => mr135 S P 1 L st sh M c s))
theorem e135_1 : mr135 S P 1 L st sh M c s = (q_isA (q_gv L 1) ∧ mr135 S P 2 L (q_gv L 1 :: st) sh M c s) := (propext (mv_R_iff (i := .aload_n 1) (len := 1) (ax := []) (by decide +kernel))).trans (q_ldA_eq (K := fun st => mr135 S P 2 L st sh M c s))
theorem e135_2 {v2 : Value} {v1 : Value} : mr135 S P 2 L (v2 :: v1 :: st) sh M c s = (mv_ss st ≤ 8 ∧ c ≤ 0 ∧ s ≤ 0 ∧ mv_isO sh (some v1) 3 ∧ mv_kal S 81 [v1, v2] sh M (mr135 S P) 5 L st c s) := (propext (mv_R_iff (i := .invokevirtual 36) (len := 3) (ax := [0, 81, 2, 3, 0, 0, 0, 803, 805, 46, 112, 806]) (by decide +kernel))).trans (q_call0)
theorem e135_5 {x : Int32} : mr135 S P 5 L (.int x :: st) sh M c s = (q_hs L 5 ∧ mr135 S P 7 (L.set 5 (some (.int x))) st sh M c s) := (propext (mv_R_iff (i := .istore 5) (len := 2) (ax := []) (by decide +kernel))).trans (q_st_eq (K := fun L => mr135 S P 7 L st sh M c s))
theorem e135_7 : mr135 S P 7 L st sh M c s = (q_isA (q_gv L 0) ∧ mr135 S P 8 L (q_gv L 0 :: st) sh M c s) := (propext (mv_R_iff (i := .aload_n 0) (len := 1) (ax := []) (by decide +kernel))).trans (q_ldA_eq (K := fun st => mr135 S P 8 L st sh M c s))
theorem e135_8 {a : Nat} : mr135 S P 8 L (.ref a :: st) sh M c s = (mv_kgf sh M a 3 1 (mr135 S P) 11 L st c s) := propext (mv_R_iff (i := .getfield 15) (len := 3) (ax := [255, 0, 3, 1]) (by decide +kernel))
theorem e135_11 : mr135 S P 11 L st sh M c s = (mr135 S P 12 L (.int (nI 0) :: st) sh M c s) := propext (mv_R_iff (i := .iconst 0) (len := 1) (ax := []) (by decide +kernel))
theorem e135_12 {v2 : Value} {v1 : Value} : mr135 S P 12 L (v2 :: v1 :: st) sh M c s = (mv_ss st ≤ 8 ∧ c ≤ 0 ∧ s ≤ 0 ∧ True ∧ mv_kal S 42 [v1, v2] sh M (mr135 S P) 15 L st c s) := (propext (mv_R_iff (i := .invokestatic 60) (len := 3) (ax := [3, 42, 2, 0, 0, 0, 0, 813, 493, 115, 494]) (by decide +kernel))).trans (q_call3)
theorem e135_15 : mr135 S P 15 L st sh M c s = (q_isI (q_gv L 2) ∧ mr135 S P 16 L (q_gv L 2 :: st) sh M c s) := (propext (mv_R_iff (i := .iload_n 2) (len := 1) (ax := []) (by decide +kernel))).trans (q_ldI_eq (K := fun st => mr135 S P 16 L st sh M c s))
theorem e135_16 {x : Int32} : mr135 S P 16 L (.int x :: st) sh M c s = (if x < nI 0 then mr135 S P 33 L st sh M c s else mr135 S P 19 L st sh M c s) := (propext (mv_R_iff (i := .ifCond .lt 17) (len := 3) (ax := [33]) (by decide +kernel))).trans (q_br)
theorem e135_19 : mr135 S P 19 L st sh M c s = (q_isI (q_gv L 2) ∧ mr135 S P 20 L (q_gv L 2 :: st) sh M c s) := (propext (mv_R_iff (i := .iload_n 2) (len := 1) (ax := []) (by decide +kernel))).trans (q_ldI_eq (K := fun st => mr135 S P 20 L st sh M c s))
theorem e135_20 : mr135 S P 20 L st sh M c s = (mr135 S P 23 L (.int (nI 4096) :: st) sh M c s) := propext (mv_R_iff (i := .sipush 4096) (len := 3) (ax := []) (by decide +kernel))
theorem e135_23 {y : Int32} {x : Int32} : mr135 S P 23 L (.int y :: .int x :: st) sh M c s = (if y ≤ x then mr135 S P 33 L st sh M c s else mr135 S P 26 L st sh M c s) := (propext (mv_R_iff (i := .if_icmp .ge 10) (len := 3) (ax := [33]) (by decide +kernel))).trans (q_br)
theorem e135_26 : mr135 S P 26 L st sh M c s = (q_isA (q_gv L 0) ∧ mr135 S P 27 L (q_gv L 0 :: st) sh M c s) := (propext (mv_R_iff (i := .aload_n 0) (len := 1) (ax := []) (by decide +kernel))).trans (q_ldA_eq (K := fun st => mr135 S P 27 L st sh M c s))
theorem e135_27 {a : Nat} : mr135 S P 27 L (.ref a :: st) sh M c s = (mv_kgf sh M a 3 1 (mr135 S P) 30 L st c s) := propext (mv_R_iff (i := .getfield 15) (len := 3) (ax := [255, 0, 3, 1]) (by decide +kernel))
theorem e135_30 : mr135 S P 30 L st sh M c s = (q_isI (q_gv L 2) ∧ mr135 S P 31 L (q_gv L 2 :: st) sh M c s) := (propext (mv_R_iff (i := .iload_n 2) (len := 1) (ax := []) (by decide +kernel))).trans (q_ldI_eq (K := fun st => mr135 S P 31 L st sh M c s))
theorem e135_31 : mr135 S P 31 L st sh M c s = (mr135 S P 32 L (.int (nI 1) :: st) sh M c s) := propext (mv_R_iff (i := .iconst 1) (len := 1) (ax := []) (by decide +kernel))
theorem e135_32 {x : Int32} {i : Int32} {a : Nat} : mr135 S P 32 L (.int x :: .int i :: .ref a :: st) sh M c s = (mv_kst sh M a i x (mr135 S P) 33 L st c s) := propext (mv_R_iff (i := .iastore) (len := 1) (ax := []) (by decide +kernel))
theorem e135_33 : mr135 S P 33 L st sh M c s = (mr135 S P 34 L (.int (nI 0) :: st) sh M c s) := propext (mv_R_iff (i := .iconst 0) (len := 1) (ax := []) (by decide +kernel))
theorem e135_34 {x : Int32} : mr135 S P 34 L (.int x :: st) sh M c s = (q_hs L 6 ∧ mr135 S P 36 (L.set 6 (some (.int x))) st sh M c s) := (propext (mv_R_iff (i := .istore 6) (len := 2) (ax := []) (by decide +kernel))).trans (q_st_eq (K := fun L => mr135 S P 36 L st sh M c s))
theorem e135_36 : mr135 S P 36 L st sh M c s = (q_isI (q_gv L 6) ∧ mr135 S P 38 L (q_gv L 6 :: st) sh M c s) := (propext (mv_R_iff (i := .iload 6) (len := 2) (ax := []) (by decide +kernel))).trans (q_ldI_eq (K := fun st => mr135 S P 38 L st sh M c s))
theorem e135_38 : mr135 S P 38 L st sh M c s = (q_isI (q_gv L 4) ∧ mr135 S P 40 L (q_gv L 4 :: st) sh M c s) := (propext (mv_R_iff (i := .iload 4) (len := 2) (ax := []) (by decide +kernel))).trans (q_ldI_eq (K := fun st => mr135 S P 40 L st sh M c s))
theorem e135_40 {y : Int32} {x : Int32} : mr135 S P 40 L (.int y :: .int x :: st) sh M c s = (if y ≤ x then mr135 S P 71 L st sh M c s else mr135 S P 43 L st sh M c s) := (propext (mv_R_iff (i := .if_icmp .ge 31) (len := 3) (ax := [71]) (by decide +kernel))).trans (q_br)
theorem e135_43 : mr135 S P 43 L st sh M c s = (q_isI (q_gv L 6) ∧ mr135 S P 45 L (q_gv L 6 :: st) sh M c s) := (propext (mv_R_iff (i := .iload 6) (len := 2) (ax := []) (by decide +kernel))).trans (q_ldI_eq (K := fun st => mr135 S P 45 L st sh M c s))
theorem e135_45 : mr135 S P 45 L st sh M c s = (q_isA (q_gv L 3) ∧ mr135 S P 46 L (q_gv L 3 :: st) sh M c s) := (propext (mv_R_iff (i := .aload_n 3) (len := 1) (ax := []) (by decide +kernel))).trans (q_ldA_eq (K := fun st => mr135 S P 46 L st sh M c s))
theorem e135_46 {a : Nat} : mr135 S P 46 L (.ref a :: st) sh M c s = (mv_kln sh M a (mr135 S P) 47 L st c s) := propext (mv_R_iff (i := .arraylength) (len := 1) (ax := []) (by decide +kernel))
theorem e135_47 {y : Int32} {x : Int32} : mr135 S P 47 L (.int y :: .int x :: st) sh M c s = (if y ≤ x then mr135 S P 71 L st sh M c s else mr135 S P 50 L st sh M c s) := (propext (mv_R_iff (i := .if_icmp .ge 24) (len := 3) (ax := [71]) (by decide +kernel))).trans (q_br)
theorem e135_50 : mr135 S P 50 L st sh M c s = (q_isA (q_gv L 0) ∧ mr135 S P 51 L (q_gv L 0 :: st) sh M c s) := (propext (mv_R_iff (i := .aload_n 0) (len := 1) (ax := []) (by decide +kernel))).trans (q_ldA_eq (K := fun st => mr135 S P 51 L st sh M c s))
theorem e135_51 : mr135 S P 51 L st sh M c s = (q_isI (q_gv L 5) ∧ mr135 S P 53 L (q_gv L 5 :: st) sh M c s) := (propext (mv_R_iff (i := .iload 5) (len := 2) (ax := []) (by decide +kernel))).trans (q_ldI_eq (K := fun st => mr135 S P 53 L st sh M c s))
theorem e135_53 {v2 : Value} {v1 : Value} : mr135 S P 53 L (v2 :: v1 :: st) sh M c s = (mv_ss st ≤ 8 ∧ c ≤ 0 ∧ s ≤ 0 ∧ mv_isO sh (some v1) 3 ∧ mv_kal S 134 [v1, v2] sh M (mr135 S P) 56 L st c s) := (propext (mv_R_iff (i := .invokevirtual 83) (len := 3) (ax := [0, 134, 2, 3, 0, 0, 0, 898, 900, 62, 112, 901]) (by decide +kernel))).trans (q_call0)
theorem e135_56 : mr135 S P 56 L st sh M c s = (q_isA (q_gv L 0) ∧ mr135 S P 57 L (q_gv L 0 :: st) sh M c s) := (propext (mv_R_iff (i := .aload_n 0) (len := 1) (ax := []) (by decide +kernel))).trans (q_ldA_eq (K := fun st => mr135 S P 57 L st sh M c s))
theorem e135_57 : mr135 S P 57 L st sh M c s = (q_isA (q_gv L 1) ∧ mr135 S P 58 L (q_gv L 1 :: st) sh M c s) := (propext (mv_R_iff (i := .aload_n 1) (len := 1) (ax := []) (by decide +kernel))).trans (q_ldA_eq (K := fun st => mr135 S P 58 L st sh M c s))
theorem e135_58 : mr135 S P 58 L st sh M c s = (q_isA (q_gv L 3) ∧ mr135 S P 59 L (q_gv L 3 :: st) sh M c s) := (propext (mv_R_iff (i := .aload_n 3) (len := 1) (ax := []) (by decide +kernel))).trans (q_ldA_eq (K := fun st => mr135 S P 59 L st sh M c s))
theorem e135_59 : mr135 S P 59 L st sh M c s = (q_isI (q_gv L 6) ∧ mr135 S P 61 L (q_gv L 6 :: st) sh M c s) := (propext (mv_R_iff (i := .iload 6) (len := 2) (ax := []) (by decide +kernel))).trans (q_ldI_eq (K := fun st => mr135 S P 61 L st sh M c s))
theorem e135_61 {i : Int32} {a : Nat} : mr135 S P 61 L (.int i :: .ref a :: st) sh M c s = (mv_kld sh M a i (mr135 S P) 62 L st c s) := propext (mv_R_iff (i := .iaload) (len := 1) (ax := []) (by decide +kernel))
theorem e135_62 {v3 : Value} {v2 : Value} {v1 : Value} : mr135 S P 62 L (v3 :: v2 :: v1 :: st) sh M c s = (mv_ss st ≤ 8 ∧ c ≤ 0 ∧ s ≤ 0 ∧ mv_isO sh (some v1) 3 ∧ mv_kal S 111 [v1, v2, v3] sh M (mr135 S P) 65 L st c s) := (propext (mv_R_iff (i := .invokevirtual 87) (len := 3) (ax := [0, 111, 3, 3, 0, 0, 0, 903, 905, 63, 112, 906]) (by decide +kernel))).trans (q_call0)
theorem e135_65 : mr135 S P 65 L st sh M c s = ((q_isI (q_gv L 6) ∧ q_hs L 6) ∧ mr135 S P 68 (L.set 6 (some (q_inc (q_gv L 6) (nI 1)))) st sh M c s) := (propext (mv_R_iff (i := .iinc 6 1) (len := 3) (ax := []) (by decide +kernel))).trans (q_inc_eq (K := fun L => mr135 S P 68 L st sh M c s))
theorem e135_68 : mr135 S P 68 L st sh M c s = (mr135 S P 36 L st sh M c s) := propext (mv_R_iff (i := .goto (-32)) (len := 3) (ax := [36]) (by decide +kernel))
theorem e135_71 : mr135 S P 71 L st sh M c s = (q_isA (q_gv L 0) ∧ mr135 S P 72 L (q_gv L 0 :: st) sh M c s) := (propext (mv_R_iff (i := .aload_n 0) (len := 1) (ax := []) (by decide +kernel))).trans (q_ldA_eq (K := fun st => mr135 S P 72 L st sh M c s))
theorem e135_72 {v1 : Value} : mr135 S P 72 L (v1 :: st) sh M c s = (mv_ss st ≤ 8 ∧ c ≤ 0 ∧ s ≤ 0 ∧ mv_isO sh (some v1) 3 ∧ mv_kal S 113 [v1] sh M (mr135 S P) 75 L st c s) := (propext (mv_R_iff (i := .invokevirtual 91) (len := 3) (ax := [0, 113, 1, 3, 0, 0, 0, 907, 909, 64, 112, 910]) (by decide +kernel))).trans (q_call0)
theorem e135_75 {x : Int32} : mr135 S P 75 L [.int x] sh M c s = (mv_nr 0 x ∧ P (some (.int x)) sh M) := propext (mv_R_iff (i := .ireturn) (len := 1) (ax := [0]) (by decide +kernel))
end CD
