/-! code lists and step rows, written by program -/
section CD
variable {S : Nat → mv_Sp} {P : mv_Post} {L : mv_Loc} {st : List Value} {sh : mv_Shp} {M : mv_Mem} {c s : Nat}
-- 71: TurnedTablets.again()I
def mk71 : mv_Cd := [
  (0, .aload_n 0, 1, []),
  (1, .getfield 19, 3, [524, 0, 4, 1]),
  (4, .getfield 133, 3, [178, 1, 1, 2]),
  (7, .ifCond .ne 6, 3, [13]),
  (10, .bipush (-2), 2, []),
  (12, .ireturn, 1, [0]),
  (13, .aload_n 0, 1, []),
  (14, .getfield 35, 3, [526, 0, 4, 3]),
  (17, .getfield 148, 3, [239, 1, 0, 2]),
  (20, .bipush 24, 2, []),
  (22, .if_icmp .lt 6, 3, [28]),
  (25, .bipush (-3), 2, []),
  (27, .ireturn, 1, [0]),
  (28, .aload_n 0, 1, []),
  (29, .invokevirtual 160, 3, [0, 53, 1, 4, 0, 0, 0, 679, 681, 32, 104, 682]),
  (32, .aload_n 0, 1, []),
  (33, .getfield 35, 3, [526, 0, 4, 3]),
  (36, .getfield 148, 3, [239, 1, 0, 2]),
  (39, .istore_n 1, 1, []),
  (40, .iconst 0, 1, []),
  (41, .istore_n 2, 1, []),
  (42, .iload_n 2, 1, []),
  (43, .aload_n 0, 1, []),
  (44, .getfield 19, 3, [524, 0, 4, 1]),
  (47, .getfield 133, 3, [178, 1, 1, 2]),
  (50, .if_icmp .ge 49, 3, [99]),
  (53, .aload_n 0, 1, []),
  (54, .getfield 35, 3, [526, 0, 4, 3]),
  (57, .getfield 148, 3, [239, 1, 0, 2]),
  (60, .bipush 24, 2, []),
  (62, .if_icmp .ge 37, 3, [99]),
  (65, .aload_n 0, 1, []),
  (66, .getfield 35, 3, [526, 0, 4, 3]),
  (69, .aload_n 0, 1, []),
  (70, .getfield 19, 3, [524, 0, 4, 1]),
  (73, .aload_n 0, 1, []),
  (74, .getfield 19, 3, [524, 0, 4, 1]),
  (77, .iload_n 2, 1, []),
  (78, .invokevirtual 167, 3, [1, 55, 2, 1, 0, 0, 726, 728, 40, 109, 729]),
  (81, .aload_n 0, 1, []),
  (82, .getfield 19, 3, [524, 0, 4, 1]),
  (85, .iload_n 2, 1, []),
  (86, .invokevirtual 170, 3, [1, 56, 2, 1, 0, 0, 731, 733, 41, 109, 734]),
  (89, .invokevirtual 163, 3, [1, 70, 4, 0, 0, 0, 689, 691, 34, 111, 692]),
  (92, .pop, 1, []),
  (93, .iinc 2 1, 3, []),
  (96, .goto (-54), 3, [42]),
  (99, .aload_n 0, 1, []),
  (100, .getfield 35, 3, [526, 0, 4, 3]),
  (103, .getfield 148, 3, [239, 1, 0, 2]),
  (106, .iload_n 1, 1, []),
  (107, .isub, 1, []),
  (108, .ireturn, 1, [0])]
def mr71 (S : Nat → mv_Sp) (P : mv_Post) : mv_Kt := mv_R mv_DF mk71 S (0, 0) P
theorem e71_0 : mr71 S P 0 L st sh M c s = (q_isA (q_gv L 0) ∧ mr71 S P 1 L (q_gv L 0 :: st) sh M c s) := (propext (mv_R_iff (i := .aload_n 0) (len := 1) (ax := []) (by decide +kernel))).trans (q_ldA_eq (K := fun st => mr71 S P 1 L st sh M c s))
theorem e71_1 {a : Nat} : mr71 S P 1 L (.ref a :: st) sh M c s = (mv_kgf sh M a 4 1 (mr71 S P) 4 L st c s) := propext (mv_R_iff (i := .getfield 19) (len := 3) (ax := [524, 0, 4, 1]) (by decide +kernel))
theorem e71_4 {a : Nat} : mr71 S P 4 L (.ref a :: st) sh M c s = (mv_kgf sh M a 1 2 (mr71 S P) 7 L st c s) := propext (mv_R_iff (i := .getfield 133) (len := 3) (ax := [178, 1, 1, 2]) (by decide +kernel))
theorem e71_7 {x : Int32} : mr71 S P 7 L (.int x :: st) sh M c s = (if x = nI 0 then mr71 S P 10 L st sh M c s else mr71 S P 13 L st sh M c s) := (propext (mv_R_iff (i := .ifCond .ne 6) (len := 3) (ax := [13]) (by decide +kernel))).trans (q_br')
theorem e71_10 : mr71 S P 10 L st sh M c s = (mr71 S P 12 L (.int (Int32.ofInt (-2)) :: st) sh M c s) := (propext (mv_R_iff (i := .bipush (-2)) (len := 2) (ax := []) (by decide +kernel))).trans (congrArg (fun z => mr71 S P 12 L (.int z :: st) sh M c s) (by decide : (Int8.ofInt (-2)).toInt32 = Int32.ofInt (-2)))
theorem e71_12 {x : Int32} : mr71 S P 12 L [.int x] sh M c s = (mv_nr 0 x ∧ P (some (.int x)) sh M) := propext (mv_R_iff (i := .ireturn) (len := 1) (ax := [0]) (by decide +kernel))
theorem e71_13 : mr71 S P 13 L st sh M c s = (q_isA (q_gv L 0) ∧ mr71 S P 14 L (q_gv L 0 :: st) sh M c s) := (propext (mv_R_iff (i := .aload_n 0) (len := 1) (ax := []) (by decide +kernel))).trans (q_ldA_eq (K := fun st => mr71 S P 14 L st sh M c s))
theorem e71_14 {a : Nat} : mr71 S P 14 L (.ref a :: st) sh M c s = (mv_kgf sh M a 4 3 (mr71 S P) 17 L st c s) := propext (mv_R_iff (i := .getfield 35) (len := 3) (ax := [526, 0, 4, 3]) (by decide +kernel))
theorem e71_17 {a : Nat} : mr71 S P 17 L (.ref a :: st) sh M c s = (mv_kgf sh M a 0 2 (mr71 S P) 20 L st c s) := propext (mv_R_iff (i := .getfield 148) (len := 3) (ax := [239, 1, 0, 2]) (by decide +kernel))
theorem e71_20 : mr71 S P 20 L st sh M c s = (mr71 S P 22 L (.int (nI 24) :: st) sh M c s) := propext (mv_R_iff (i := .bipush 24) (len := 2) (ax := []) (by decide +kernel))
theorem e71_22 {y : Int32} {x : Int32} : mr71 S P 22 L (.int y :: .int x :: st) sh M c s = (if x < y then mr71 S P 28 L st sh M c s else mr71 S P 25 L st sh M c s) := (propext (mv_R_iff (i := .if_icmp .lt 6) (len := 3) (ax := [28]) (by decide +kernel))).trans (q_br)
theorem e71_25 : mr71 S P 25 L st sh M c s = (mr71 S P 27 L (.int (Int32.ofInt (-3)) :: st) sh M c s) := (propext (mv_R_iff (i := .bipush (-3)) (len := 2) (ax := []) (by decide +kernel))).trans (congrArg (fun z => mr71 S P 27 L (.int z :: st) sh M c s) (by decide : (Int8.ofInt (-3)).toInt32 = Int32.ofInt (-3)))
theorem e71_27 {x : Int32} : mr71 S P 27 L [.int x] sh M c s = (mv_nr 0 x ∧ P (some (.int x)) sh M) := propext (mv_R_iff (i := .ireturn) (len := 1) (ax := [0]) (by decide +kernel))
theorem e71_28 : mr71 S P 28 L st sh M c s = (q_isA (q_gv L 0) ∧ mr71 S P 29 L (q_gv L 0 :: st) sh M c s) := (propext (mv_R_iff (i := .aload_n 0) (len := 1) (ax := []) (by decide +kernel))).trans (q_ldA_eq (K := fun st => mr71 S P 29 L st sh M c s))
theorem e71_29 {v1 : Value} : mr71 S P 29 L (v1 :: st) sh M c s = (mv_ss st ≤ 8 ∧ c ≤ 0 ∧ s ≤ 0 ∧ mv_isO sh (some v1) 4 ∧ mv_kal S 53 [v1] sh M (mr71 S P) 32 L st c s) := (propext (mv_R_iff (i := .invokevirtual 160) (len := 3) (ax := [0, 53, 1, 4, 0, 0, 0, 679, 681, 32, 104, 682]) (by decide +kernel))).trans (q_call0)
theorem e71_32 : mr71 S P 32 L st sh M c s = (q_isA (q_gv L 0) ∧ mr71 S P 33 L (q_gv L 0 :: st) sh M c s) := (propext (mv_R_iff (i := .aload_n 0) (len := 1) (ax := []) (by decide +kernel))).trans (q_ldA_eq (K := fun st => mr71 S P 33 L st sh M c s))
theorem e71_33 {a : Nat} : mr71 S P 33 L (.ref a :: st) sh M c s = (mv_kgf sh M a 4 3 (mr71 S P) 36 L st c s) := propext (mv_R_iff (i := .getfield 35) (len := 3) (ax := [526, 0, 4, 3]) (by decide +kernel))
theorem e71_36 {a : Nat} : mr71 S P 36 L (.ref a :: st) sh M c s = (mv_kgf sh M a 0 2 (mr71 S P) 39 L st c s) := propext (mv_R_iff (i := .getfield 148) (len := 3) (ax := [239, 1, 0, 2]) (by decide +kernel))
theorem e71_39 {x : Int32} : mr71 S P 39 L (.int x :: st) sh M c s = (q_hs L 1 ∧ mr71 S P 40 (L.set 1 (some (.int x))) st sh M c s) := (propext (mv_R_iff (i := .istore_n 1) (len := 1) (ax := []) (by decide +kernel))).trans (q_st_eq (K := fun L => mr71 S P 40 L st sh M c s))
theorem e71_40 : mr71 S P 40 L st sh M c s = (mr71 S P 41 L (.int (nI 0) :: st) sh M c s) := propext (mv_R_iff (i := .iconst 0) (len := 1) (ax := []) (by decide +kernel))
theorem e71_41 {x : Int32} : mr71 S P 41 L (.int x :: st) sh M c s = (q_hs L 2 ∧ mr71 S P 42 (L.set 2 (some (.int x))) st sh M c s) := (propext (mv_R_iff (i := .istore_n 2) (len := 1) (ax := []) (by decide +kernel))).trans (q_st_eq (K := fun L => mr71 S P 42 L st sh M c s))
theorem e71_42 : mr71 S P 42 L st sh M c s = (q_isI (q_gv L 2) ∧ mr71 S P 43 L (q_gv L 2 :: st) sh M c s) := (propext (mv_R_iff (i := .iload_n 2) (len := 1) (ax := []) (by decide +kernel))).trans (q_ldI_eq (K := fun st => mr71 S P 43 L st sh M c s))
theorem e71_43 : mr71 S P 43 L st sh M c s = (q_isA (q_gv L 0) ∧ mr71 S P 44 L (q_gv L 0 :: st) sh M c s) := (propext (mv_R_iff (i := .aload_n 0) (len := 1) (ax := []) (by decide +kernel))).trans (q_ldA_eq (K := fun st => mr71 S P 44 L st sh M c s))
theorem e71_44 {a : Nat} : mr71 S P 44 L (.ref a :: st) sh M c s = (mv_kgf sh M a 4 1 (mr71 S P) 47 L st c s) := propext (mv_R_iff (i := .getfield 19) (len := 3) (ax := [524, 0, 4, 1]) (by decide +kernel))
theorem e71_47 {a : Nat} : mr71 S P 47 L (.ref a :: st) sh M c s = (mv_kgf sh M a 1 2 (mr71 S P) 50 L st c s) := propext (mv_R_iff (i := .getfield 133) (len := 3) (ax := [178, 1, 1, 2]) (by decide +kernel))
theorem e71_50 {y : Int32} {x : Int32} : mr71 S P 50 L (.int y :: .int x :: st) sh M c s = (if y ≤ x then mr71 S P 99 L st sh M c s else mr71 S P 53 L st sh M c s) := (propext (mv_R_iff (i := .if_icmp .ge 49) (len := 3) (ax := [99]) (by decide +kernel))).trans (q_br)
theorem e71_53 : mr71 S P 53 L st sh M c s = (q_isA (q_gv L 0) ∧ mr71 S P 54 L (q_gv L 0 :: st) sh M c s) := (propext (mv_R_iff (i := .aload_n 0) (len := 1) (ax := []) (by decide +kernel))).trans (q_ldA_eq (K := fun st => mr71 S P 54 L st sh M c s))
theorem e71_54 {a : Nat} : mr71 S P 54 L (.ref a :: st) sh M c s = (mv_kgf sh M a 4 3 (mr71 S P) 57 L st c s) := propext (mv_R_iff (i := .getfield 35) (len := 3) (ax := [526, 0, 4, 3]) (by decide +kernel))
theorem e71_57 {a : Nat} : mr71 S P 57 L (.ref a :: st) sh M c s = (mv_kgf sh M a 0 2 (mr71 S P) 60 L st c s) := propext (mv_R_iff (i := .getfield 148) (len := 3) (ax := [239, 1, 0, 2]) (by decide +kernel))
theorem e71_60 : mr71 S P 60 L st sh M c s = (mr71 S P 62 L (.int (nI 24) :: st) sh M c s) := propext (mv_R_iff (i := .bipush 24) (len := 2) (ax := []) (by decide +kernel))
theorem e71_62 {y : Int32} {x : Int32} : mr71 S P 62 L (.int y :: .int x :: st) sh M c s = (if y ≤ x then mr71 S P 99 L st sh M c s else mr71 S P 65 L st sh M c s) := (propext (mv_R_iff (i := .if_icmp .ge 37) (len := 3) (ax := [99]) (by decide +kernel))).trans (q_br)
theorem e71_65 : mr71 S P 65 L st sh M c s = (q_isA (q_gv L 0) ∧ mr71 S P 66 L (q_gv L 0 :: st) sh M c s) := (propext (mv_R_iff (i := .aload_n 0) (len := 1) (ax := []) (by decide +kernel))).trans (q_ldA_eq (K := fun st => mr71 S P 66 L st sh M c s))
theorem e71_66 {a : Nat} : mr71 S P 66 L (.ref a :: st) sh M c s = (mv_kgf sh M a 4 3 (mr71 S P) 69 L st c s) := propext (mv_R_iff (i := .getfield 35) (len := 3) (ax := [526, 0, 4, 3]) (by decide +kernel))
theorem e71_69 : mr71 S P 69 L st sh M c s = (q_isA (q_gv L 0) ∧ mr71 S P 70 L (q_gv L 0 :: st) sh M c s) := (propext (mv_R_iff (i := .aload_n 0) (len := 1) (ax := []) (by decide +kernel))).trans (q_ldA_eq (K := fun st => mr71 S P 70 L st sh M c s))
theorem e71_70 {a : Nat} : mr71 S P 70 L (.ref a :: st) sh M c s = (mv_kgf sh M a 4 1 (mr71 S P) 73 L st c s) := propext (mv_R_iff (i := .getfield 19) (len := 3) (ax := [524, 0, 4, 1]) (by decide +kernel))
theorem e71_73 : mr71 S P 73 L st sh M c s = (q_isA (q_gv L 0) ∧ mr71 S P 74 L (q_gv L 0 :: st) sh M c s) := (propext (mv_R_iff (i := .aload_n 0) (len := 1) (ax := []) (by decide +kernel))).trans (q_ldA_eq (K := fun st => mr71 S P 74 L st sh M c s))
theorem e71_74 {a : Nat} : mr71 S P 74 L (.ref a :: st) sh M c s = (mv_kgf sh M a 4 1 (mr71 S P) 77 L st c s) := propext (mv_R_iff (i := .getfield 19) (len := 3) (ax := [524, 0, 4, 1]) (by decide +kernel))
theorem e71_77 : mr71 S P 77 L st sh M c s = (q_isI (q_gv L 2) ∧ mr71 S P 78 L (q_gv L 2 :: st) sh M c s) := (propext (mv_R_iff (i := .iload_n 2) (len := 1) (ax := []) (by decide +kernel))).trans (q_ldI_eq (K := fun st => mr71 S P 78 L st sh M c s))
theorem e71_78 {v2 : Value} {v1 : Value} : mr71 S P 78 L (v2 :: v1 :: st) sh M c s = (mv_ss st ≤ 8 ∧ c ≤ 0 ∧ s ≤ 0 ∧ mv_isO sh (some v1) 1 ∧ mv_kal S 55 [v1, v2] sh M (mr71 S P) 81 L st c s) := (propext (mv_R_iff (i := .invokevirtual 167) (len := 3) (ax := [1, 55, 2, 1, 0, 0, 726, 728, 40, 109, 729]) (by decide +kernel))).trans (q_call1)
theorem e71_81 : mr71 S P 81 L st sh M c s = (q_isA (q_gv L 0) ∧ mr71 S P 82 L (q_gv L 0 :: st) sh M c s) := (propext (mv_R_iff (i := .aload_n 0) (len := 1) (ax := []) (by decide +kernel))).trans (q_ldA_eq (K := fun st => mr71 S P 82 L st sh M c s))
theorem e71_82 {a : Nat} : mr71 S P 82 L (.ref a :: st) sh M c s = (mv_kgf sh M a 4 1 (mr71 S P) 85 L st c s) := propext (mv_R_iff (i := .getfield 19) (len := 3) (ax := [524, 0, 4, 1]) (by decide +kernel))
theorem e71_85 : mr71 S P 85 L st sh M c s = (q_isI (q_gv L 2) ∧ mr71 S P 86 L (q_gv L 2 :: st) sh M c s) := (propext (mv_R_iff (i := .iload_n 2) (len := 1) (ax := []) (by decide +kernel))).trans (q_ldI_eq (K := fun st => mr71 S P 86 L st sh M c s))
theorem e71_86 {v2 : Value} {v1 : Value} : mr71 S P 86 L (v2 :: v1 :: st) sh M c s = (mv_ss st ≤ 8 ∧ c ≤ 0 ∧ s ≤ 0 ∧ mv_isO sh (some v1) 1 ∧ mv_kal S 56 [v1, v2] sh M (mr71 S P) 89 L st c s) := (propext (mv_R_iff (i := .invokevirtual 170) (len := 3) (ax := [1, 56, 2, 1, 0, 0, 731, 733, 41, 109, 734]) (by decide +kernel))).trans (q_call1)
theorem e71_89 {v4 : Value} {v3 : Value} {v2 : Value} {v1 : Value} : mr71 S P 89 L (v4 :: v3 :: v2 :: v1 :: st) sh M c s = (mv_ss st ≤ 8 ∧ c ≤ 0 ∧ s ≤ 0 ∧ mv_isO sh (some v1) 0 ∧ mv_kal S 70 [v1, v2, v3, v4] sh M (mr71 S P) 92 L st c s) := (propext (mv_R_iff (i := .invokevirtual 163) (len := 3) (ax := [1, 70, 4, 0, 0, 0, 689, 691, 34, 111, 692]) (by decide +kernel))).trans (q_call1)
theorem e71_92 {x : Int32} : mr71 S P 92 L (.int x :: st) sh M c s = (mr71 S P 93 L st sh M c s) := propext (mv_R_iff (i := .pop) (len := 1) (ax := []) (by decide +kernel))
theorem e71_92r {x : Nat} : mr71 S P 92 L (.ref x :: st) sh M c s = (mr71 S P 93 L st sh M c s) := propext (mv_R_iff (i := .pop) (len := 1) (ax := []) (by decide +kernel))
theorem e71_93 : mr71 S P 93 L st sh M c s = ((q_isI (q_gv L 2) ∧ q_hs L 2) ∧ mr71 S P 96 (L.set 2 (some (q_inc (q_gv L 2) (nI 1)))) st sh M c s) := (propext (mv_R_iff (i := .iinc 2 1) (len := 3) (ax := []) (by decide +kernel))).trans (q_inc_eq (K := fun L => mr71 S P 96 L st sh M c s))
theorem e71_96 : mr71 S P 96 L st sh M c s = (mr71 S P 42 L st sh M c s) := propext (mv_R_iff (i := .goto (-54)) (len := 3) (ax := [42]) (by decide +kernel))
theorem e71_99 : mr71 S P 99 L st sh M c s = (q_isA (q_gv L 0) ∧ mr71 S P 100 L (q_gv L 0 :: st) sh M c s) := (propext (mv_R_iff (i := .aload_n 0) (len := 1) (ax := []) (by decide +kernel))).trans (q_ldA_eq (K := fun st => mr71 S P 100 L st sh M c s))
theorem e71_100 {a : Nat} : mr71 S P 100 L (.ref a :: st) sh M c s = (mv_kgf sh M a 4 3 (mr71 S P) 103 L st c s) := propext (mv_R_iff (i := .getfield 35) (len := 3) (ax := [526, 0, 4, 3]) (by decide +kernel))
theorem e71_103 {a : Nat} : mr71 S P 103 L (.ref a :: st) sh M c s = (mv_kgf sh M a 0 2 (mr71 S P) 106 L st c s) := propext (mv_R_iff (i := .getfield 148) (len := 3) (ax := [239, 1, 0, 2]) (by decide +kernel))
theorem e71_106 : mr71 S P 106 L st sh M c s = (q_isI (q_gv L 1) ∧ mr71 S P 107 L (q_gv L 1 :: st) sh M c s) := (propext (mv_R_iff (i := .iload_n 1) (len := 1) (ax := []) (by decide +kernel))).trans (q_ldI_eq (K := fun st => mr71 S P 107 L st sh M c s))
theorem e71_107 {y : Int32} {x : Int32} : mr71 S P 107 L (.int y :: .int x :: st) sh M c s = (mr71 S P 108 L (.int (x - y) :: st) sh M c s) := propext (mv_R_iff (i := .isub) (len := 1) (ax := []) (by decide +kernel))
theorem e71_108 {x : Int32} : mr71 S P 108 L [.int x] sh M c s = (mv_nr 0 x ∧ P (some (.int x)) sh M) := propext (mv_R_iff (i := .ireturn) (len := 1) (ax := [0]) (by decide +kernel))
-- 72: TurnedTablets.allPacks()I
def mk72 : mv_Cd := [
  (0, .iconst 1, 1, []),
  (1, .aload_n 0, 1, []),
  (2, .getfield 19, 3, [524, 0, 4, 1]),
  (5, .getfield 90, 3, [174, 1, 1, 1]),
  (8, .ishl, 1, []),
  (9, .iconst 1, 1, []),
  (10, .isub, 1, []),
  (11, .ireturn, 1, [0])]
def mr72 (S : Nat → mv_Sp) (P : mv_Post) : mv_Kt := mv_R mv_DF mk72 S (0, 0) P
theorem e72_0 : mr72 S P 0 L st sh M c s = (mr72 S P 1 L (.int (nI 1) :: st) sh M c s) := propext (mv_R_iff (i := .iconst 1) (len := 1) (ax := []) (by decide +kernel))
theorem e72_1 : mr72 S P 1 L st sh M c s = (q_isA (q_gv L 0) ∧ mr72 S P 2 L (q_gv L 0 :: st) sh M c s) := (propext (mv_R_iff (i := .aload_n 0) (len := 1) (ax := []) (by decide +kernel))).trans (q_ldA_eq (K := fun st => mr72 S P 2 L st sh M c s))
theorem e72_2 {a : Nat} : mr72 S P 2 L (.ref a :: st) sh M c s = (mv_kgf sh M a 4 1 (mr72 S P) 5 L st c s) := propext (mv_R_iff (i := .getfield 19) (len := 3) (ax := [524, 0, 4, 1]) (by decide +kernel))
theorem e72_5 {a : Nat} : mr72 S P 5 L (.ref a :: st) sh M c s = (mv_kgf sh M a 1 1 (mr72 S P) 8 L st c s) := propext (mv_R_iff (i := .getfield 90) (len := 3) (ax := [174, 1, 1, 1]) (by decide +kernel))
theorem e72_8 {y : Int32} {x : Int32} : mr72 S P 8 L (.int y :: .int x :: st) sh M c s = (mr72 S P 9 L (.int (x <<< (y &&& 31)) :: st) sh M c s) := propext (mv_R_iff (i := .ishl) (len := 1) (ax := []) (by decide +kernel))
theorem e72_9 : mr72 S P 9 L st sh M c s = (mr72 S P 10 L (.int (nI 1) :: st) sh M c s) := propext (mv_R_iff (i := .iconst 1) (len := 1) (ax := []) (by decide +kernel))
theorem e72_10 {y : Int32} {x : Int32} : mr72 S P 10 L (.int y :: .int x :: st) sh M c s = (mr72 S P 11 L (.int (x - y) :: st) sh M c s) := propext (mv_R_iff (i := .isub) (len := 1) (ax := []) (by decide +kernel))
theorem e72_11 {x : Int32} : mr72 S P 11 L [.int x] sh M c s = (mv_nr 0 x ∧ P (some (.int x)) sh M) := propext (mv_R_iff (i := .ireturn) (len := 1) (ax := [0]) (by decide +kernel))
-- 73: Loom.areColours(I)Z
def mk73 : mv_Cd := [
  (0, .iconst 1, 1, []),
  (1, .istore_n 2, 1, []),
  (2, .iconst 0, 1, []),
  (3, .istore_n 3, 1, []),
  (4, .iload_n 3, 1, []),
  (5, .aload_n 0, 1, []),
  (6, .getfield 30, 3, [167, 0, 1, 0]),
  (9, .if_icmp .ge 14, 3, [23]),
  (12, .iload_n 2, 1, []),
  (13, .bipush 10, 2, []),
  (15, .imul, 1, []),
  (16, .istore_n 2, 1, []),
  (17, .iinc 3 1, 3, []),
  (20, .goto (-16), 3, [4]),
  (23, .iload_n 1, 1, []),
  (24, .ifCond .lt 12, 3, [36]),
  (27, .iload_n 1, 1, []),
  (28, .iload_n 2, 1, []),
  (29, .if_icmp .ge 7, 3, [36]),
  (32, .iconst 1, 1, []),
  (33, .goto 4, 3, [37]),
  (36, .iconst 0, 1, []),
  (37, .ireturn, 1, [1])]
def mr73 (S : Nat → mv_Sp) (P : mv_Post) : mv_Kt := mv_R mv_DF mk73 S (0, 0) P
theorem e73_0 : mr73 S P 0 L st sh M c s = (mr73 S P 1 L (.int (nI 1) :: st) sh M c s) := propext (mv_R_iff (i := .iconst 1) (len := 1) (ax := []) (by decide +kernel))
theorem e73_1 {x : Int32} : mr73 S P 1 L (.int x :: st) sh M c s = (q_hs L 2 ∧ mr73 S P 2 (L.set 2 (some (.int x))) st sh M c s) := (propext (mv_R_iff (i := .istore_n 2) (len := 1) (ax := []) (by decide +kernel))).trans (q_st_eq (K := fun L => mr73 S P 2 L st sh M c s))
theorem e73_2 : mr73 S P 2 L st sh M c s = (mr73 S P 3 L (.int (nI 0) :: st) sh M c s) := propext (mv_R_iff (i := .iconst 0) (len := 1) (ax := []) (by decide +kernel))
theorem e73_3 {x : Int32} : mr73 S P 3 L (.int x :: st) sh M c s = (q_hs L 3 ∧ mr73 S P 4 (L.set 3 (some (.int x))) st sh M c s) := (propext (mv_R_iff (i := .istore_n 3) (len := 1) (ax := []) (by decide +kernel))).trans (q_st_eq (K := fun L => mr73 S P 4 L st sh M c s))
theorem e73_4 : mr73 S P 4 L st sh M c s = (q_isI (q_gv L 3) ∧ mr73 S P 5 L (q_gv L 3 :: st) sh M c s) := (propext (mv_R_iff (i := .iload_n 3) (len := 1) (ax := []) (by decide +kernel))).trans (q_ldI_eq (K := fun st => mr73 S P 5 L st sh M c s))
theorem e73_5 : mr73 S P 5 L st sh M c s = (q_isA (q_gv L 0) ∧ mr73 S P 6 L (q_gv L 0 :: st) sh M c s) := (propext (mv_R_iff (i := .aload_n 0) (len := 1) (ax := []) (by decide +kernel))).trans (q_ldA_eq (K := fun st => mr73 S P 6 L st sh M c s))
theorem e73_6 {a : Nat} : mr73 S P 6 L (.ref a :: st) sh M c s = (mv_kgf sh M a 1 0 (mr73 S P) 9 L st c s) := propext (mv_R_iff (i := .getfield 30) (len := 3) (ax := [167, 0, 1, 0]) (by decide +kernel))
theorem e73_9 {y : Int32} {x : Int32} : mr73 S P 9 L (.int y :: .int x :: st) sh M c s = (if y ≤ x then mr73 S P 23 L st sh M c s else mr73 S P 12 L st sh M c s) := (propext (mv_R_iff (i := .if_icmp .ge 14) (len := 3) (ax := [23]) (by decide +kernel))).trans (q_br)
theorem e73_12 : mr73 S P 12 L st sh M c s = (q_isI (q_gv L 2) ∧ mr73 S P 13 L (q_gv L 2 :: st) sh M c s) := (propext (mv_R_iff (i := .iload_n 2) (len := 1) (ax := []) (by decide +kernel))).trans (q_ldI_eq (K := fun st => mr73 S P 13 L st sh M c s))
theorem e73_13 : mr73 S P 13 L st sh M c s = (mr73 S P 15 L (.int (nI 10) :: st) sh M c s) := propext (mv_R_iff (i := .bipush 10) (len := 2) (ax := []) (by decide +kernel))
theorem e73_15 {y : Int32} {x : Int32} : mr73 S P 15 L (.int y :: .int x :: st) sh M c s = (mr73 S P 16 L (.int (x * y) :: st) sh M c s) := propext (mv_R_iff (i := .imul) (len := 1) (ax := []) (by decide +kernel))
theorem e73_16 {x : Int32} : mr73 S P 16 L (.int x :: st) sh M c s = (q_hs L 2 ∧ mr73 S P 17 (L.set 2 (some (.int x))) st sh M c s) := (propext (mv_R_iff (i := .istore_n 2) (len := 1) (ax := []) (by decide +kernel))).trans (q_st_eq (K := fun L => mr73 S P 17 L st sh M c s))
theorem e73_17 : mr73 S P 17 L st sh M c s = ((q_isI (q_gv L 3) ∧ q_hs L 3) ∧ mr73 S P 20 (L.set 3 (some (q_inc (q_gv L 3) (nI 1)))) st sh M c s) := (propext (mv_R_iff (i := .iinc 3 1) (len := 3) (ax := []) (by decide +kernel))).trans (q_inc_eq (K := fun L => mr73 S P 20 L st sh M c s))
theorem e73_20 : mr73 S P 20 L st sh M c s = (mr73 S P 4 L st sh M c s) := propext (mv_R_iff (i := .goto (-16)) (len := 3) (ax := [4]) (by decide +kernel))
theorem e73_23 : mr73 S P 23 L st sh M c s = (q_isI (q_gv L 1) ∧ mr73 S P 24 L (q_gv L 1 :: st) sh M c s) := (propext (mv_R_iff (i := .iload_n 1) (len := 1) (ax := []) (by decide +kernel))).trans (q_ldI_eq (K := fun st => mr73 S P 24 L st sh M c s))
theorem e73_24 {x : Int32} : mr73 S P 24 L (.int x :: st) sh M c s = (if x < nI 0 then mr73 S P 36 L st sh M c s else mr73 S P 27 L st sh M c s) := (propext (mv_R_iff (i := .ifCond .lt 12) (len := 3) (ax := [36]) (by decide +kernel))).trans (q_br)
theorem e73_27 : mr73 S P 27 L st sh M c s = (q_isI (q_gv L 1) ∧ mr73 S P 28 L (q_gv L 1 :: st) sh M c s) := (propext (mv_R_iff (i := .iload_n 1) (len := 1) (ax := []) (by decide +kernel))).trans (q_ldI_eq (K := fun st => mr73 S P 28 L st sh M c s))
theorem e73_28 : mr73 S P 28 L st sh M c s = (q_isI (q_gv L 2) ∧ mr73 S P 29 L (q_gv L 2 :: st) sh M c s) := (propext (mv_R_iff (i := .iload_n 2) (len := 1) (ax := []) (by decide +kernel))).trans (q_ldI_eq (K := fun st => mr73 S P 29 L st sh M c s))
theorem e73_29 {y : Int32} {x : Int32} : mr73 S P 29 L (.int y :: .int x :: st) sh M c s = (if y ≤ x then mr73 S P 36 L st sh M c s else mr73 S P 32 L st sh M c s) := (propext (mv_R_iff (i := .if_icmp .ge 7) (len := 3) (ax := [36]) (by decide +kernel))).trans (q_br)
theorem e73_32 : mr73 S P 32 L st sh M c s = (mr73 S P 33 L (.int (nI 1) :: st) sh M c s) := propext (mv_R_iff (i := .iconst 1) (len := 1) (ax := []) (by decide +kernel))
theorem e73_33 : mr73 S P 33 L st sh M c s = (mr73 S P 37 L st sh M c s) := propext (mv_R_iff (i := .goto 4) (len := 3) (ax := [37]) (by decide +kernel))
theorem e73_36 : mr73 S P 36 L st sh M c s = (mr73 S P 37 L (.int (nI 0) :: st) sh M c s) := propext (mv_R_iff (i := .iconst 0) (len := 1) (ax := []) (by decide +kernel))
theorem e73_37 {x : Int32} : mr73 S P 37 L [.int x] sh M c s = (mv_nr 1 x ∧ P (some (.int x)) sh M) := propext (mv_R_iff (i := .ireturn) (len := 1) (ax := [1]) (by decide +kernel))
-- 74: Loom.shows(II)Z
def mk74 : mv_Cd := [
  (0, .iload_n 2, 1, []),
  (1, .istore_n 3, 1, []),
  (2, .aload_n 0, 1, []),
  (3, .getfield 30, 3, [167, 0, 1, 0]),
  (6, .iconst 1, 1, []),
  (7, .isub, 1, []),
  (8, .istore 4, 2, []),
  (10, .iload 4, 2, []),
  (12, .ifCond .lt 37, 3, [49]),
  (15, .aload_n 0, 1, []),
  (16, .iload 4, 2, []),
  (18, .iload_n 1, 1, []),
  (19, .iconst 2, 1, []),
  (20, .iload 4, 2, []),
  (22, .imul, 1, []),
  (23, .ishr, 1, []),
  (24, .iconst 3, 1, []),
  (25, .iand, 1, []),
  (26, .invokevirtual 60, 3, [0, 29, 3, 1, 0, 0, 0, 456, 458, 10, 109, 459]),
  (29, .iload_n 3, 1, []),
  (30, .bipush 10, 2, []),
  (32, .irem, 1, []),
  (33, .if_icmp .eq 5, 3, [38]),
  (36, .iconst 0, 1, []),
  (37, .ireturn, 1, [1]),
  (38, .iload_n 3, 1, []),
  (39, .bipush 10, 2, []),
  (41, .idiv, 1, []),
  (42, .istore_n 3, 1, []),
  (43, .iinc 4 (-1), 3, []),
  (46, .goto (-36), 3, [10]),
  (49, .iload_n 3, 1, []),
  (50, .ifCond .ne 7, 3, [57]),
  (53, .iconst 1, 1, []),
  (54, .goto 4, 3, [58]),
  (57, .iconst 0, 1, []),
  (58, .ireturn, 1, [1])]
def mr74 (S : Nat → mv_Sp) (P : mv_Post) : mv_Kt := mv_R mv_DF mk74 S (0, 0) P
theorem e74_0 : mr74 S P 0 L st sh M c s = (q_isI (q_gv L 2) ∧ mr74 S P 1 L (q_gv L 2 :: st) sh M c s) := (propext (mv_R_iff (i := .iload_n 2) (len := 1) (ax := []) (by decide +kernel))).trans (q_ldI_eq (K := fun st => mr74 S P 1 L st sh M c s))
theorem e74_1 {x : Int32} : mr74 S P 1 L (.int x :: st) sh M c s = (q_hs L 3 ∧ mr74 S P 2 (L.set 3 (some (.int x))) st sh M c s) := (propext (mv_R_iff (i := .istore_n 3) (len := 1) (ax := []) (by decide +kernel))).trans (q_st_eq (K := fun L => mr74 S P 2 L st sh M c s))
theorem e74_2 : mr74 S P 2 L st sh M c s = (q_isA (q_gv L 0) ∧ mr74 S P 3 L (q_gv L 0 :: st) sh M c s) := (propext (mv_R_iff (i := .aload_n 0) (len := 1) (ax := []) (by decide +kernel))).trans (q_ldA_eq (K := fun st => mr74 S P 3 L st sh M c s))
theorem e74_3 {a : Nat} : mr74 S P 3 L (.ref a :: st) sh M c s = (mv_kgf sh M a 1 0 (mr74 S P) 6 L st c s) := propext (mv_R_iff (i := .getfield 30) (len := 3) (ax := [167, 0, 1, 0]) (by decide +kernel))
theorem e74_6 : mr74 S P 6 L st sh M c s = (mr74 S P 7 L (.int (nI 1) :: st) sh M c s) := propext (mv_R_iff (i := .iconst 1) (len := 1) (ax := []) (by decide +kernel))
theorem e74_7 {y : Int32} {x : Int32} : mr74 S P 7 L (.int y :: .int x :: st) sh M c s = (mr74 S P 8 L (.int (x - y) :: st) sh M c s) := propext (mv_R_iff (i := .isub) (len := 1) (ax := []) (by decide +kernel))
theorem e74_8 {x : Int32} : mr74 S P 8 L (.int x :: st) sh M c s = (q_hs L 4 ∧ mr74 S P 10 (L.set 4 (some (.int x))) st sh M c s) := (propext (mv_R_iff (i := .istore 4) (len := 2) (ax := []) (by decide +kernel))).trans (q_st_eq (K := fun L => mr74 S P 10 L st sh M c s))
theorem e74_10 : mr74 S P 10 L st sh M c s = (q_isI (q_gv L 4) ∧ mr74 S P 12 L (q_gv L 4 :: st) sh M c s) := (propext (mv_R_iff (i := .iload 4) (len := 2) (ax := []) (by decide +kernel))).trans (q_ldI_eq (K := fun st => mr74 S P 12 L st sh M c s))
theorem e74_12 {x : Int32} : mr74 S P 12 L (.int x :: st) sh M c s = (if x < nI 0 then mr74 S P 49 L st sh M c s else mr74 S P 15 L st sh M c s) := (propext (mv_R_iff (i := .ifCond .lt 37) (len := 3) (ax := [49]) (by decide +kernel))).trans (q_br)
theorem e74_15 : mr74 S P 15 L st sh M c s = (q_isA (q_gv L 0) ∧ mr74 S P 16 L (q_gv L 0 :: st) sh M c s) := (propext (mv_R_iff (i := .aload_n 0) (len := 1) (ax := []) (by decide +kernel))).trans (q_ldA_eq (K := fun st => mr74 S P 16 L st sh M c s))
theorem e74_16 : mr74 S P 16 L st sh M c s = (q_isI (q_gv L 4) ∧ mr74 S P 18 L (q_gv L 4 :: st) sh M c s) := (propext (mv_R_iff (i := .iload 4) (len := 2) (ax := []) (by decide +kernel))).trans (q_ldI_eq (K := fun st => mr74 S P 18 L st sh M c s))
theorem e74_18 : mr74 S P 18 L st sh M c s = (q_isI (q_gv L 1) ∧ mr74 S P 19 L (q_gv L 1 :: st) sh M c s) := (propext (mv_R_iff (i := .iload_n 1) (len := 1) (ax := []) (by decide +kernel))).trans (q_ldI_eq (K := fun st => mr74 S P 19 L st sh M c s))
theorem e74_19 : mr74 S P 19 L st sh M c s = (mr74 S P 20 L (.int (nI 2) :: st) sh M c s) := propext (mv_R_iff (i := .iconst 2) (len := 1) (ax := []) (by decide +kernel))
theorem e74_20 : mr74 S P 20 L st sh M c s = (q_isI (q_gv L 4) ∧ mr74 S P 22 L (q_gv L 4 :: st) sh M c s) := (propext (mv_R_iff (i := .iload 4) (len := 2) (ax := []) (by decide +kernel))).trans (q_ldI_eq (K := fun st => mr74 S P 22 L st sh M c s))
theorem e74_22 {y : Int32} {x : Int32} : mr74 S P 22 L (.int y :: .int x :: st) sh M c s = (mr74 S P 23 L (.int (x * y) :: st) sh M c s) := propext (mv_R_iff (i := .imul) (len := 1) (ax := []) (by decide +kernel))
theorem e74_23 {y : Int32} {x : Int32} : mr74 S P 23 L (.int y :: .int x :: st) sh M c s = (mr74 S P 24 L (.int (x >>> (y &&& 31)) :: st) sh M c s) := propext (mv_R_iff (i := .ishr) (len := 1) (ax := []) (by decide +kernel))
theorem e74_24 : mr74 S P 24 L st sh M c s = (mr74 S P 25 L (.int (nI 3) :: st) sh M c s) := propext (mv_R_iff (i := .iconst 3) (len := 1) (ax := []) (by decide +kernel))
theorem e74_25 {y : Int32} {x : Int32} : mr74 S P 25 L (.int y :: .int x :: st) sh M c s = (mr74 S P 26 L (.int (x &&& y) :: st) sh M c s) := propext (mv_R_iff (i := .iand) (len := 1) (ax := []) (by decide +kernel))
theorem e74_26 {v3 : Value} {v2 : Value} {v1 : Value} : mr74 S P 26 L (v3 :: v2 :: v1 :: st) sh M c s = (mv_ss st ≤ 8 ∧ c ≤ 0 ∧ s ≤ 0 ∧ mv_isO sh (some v1) 1 ∧ mv_kal S 29 [v1, v2, v3] sh M (mr74 S P) 29 L st c s) := (propext (mv_R_iff (i := .invokevirtual 60) (len := 3) (ax := [0, 29, 3, 1, 0, 0, 0, 456, 458, 10, 109, 459]) (by decide +kernel))).trans (q_call0)
theorem e74_29 : mr74 S P 29 L st sh M c s = (q_isI (q_gv L 3) ∧ mr74 S P 30 L (q_gv L 3 :: st) sh M c s) := (propext (mv_R_iff (i := .iload_n 3) (len := 1) (ax := []) (by decide +kernel))).trans (q_ldI_eq (K := fun st => mr74 S P 30 L st sh M c s))
theorem e74_30 : mr74 S P 30 L st sh M c s = (mr74 S P 32 L (.int (nI 10) :: st) sh M c s) := propext (mv_R_iff (i := .bipush 10) (len := 2) (ax := []) (by decide +kernel))
theorem e74_32 {y : Int32} {x : Int32} : mr74 S P 32 L (.int y :: .int x :: st) sh M c s = (¬ y = nI 0 ∧ mr74 S P 33 L (.int (q_rm x y) :: st) sh M c s) := propext (mv_R_iff (i := .irem) (len := 1) (ax := []) (by decide +kernel))
theorem e74_33 {y : Int32} {x : Int32} : mr74 S P 33 L (.int y :: .int x :: st) sh M c s = (if x = y then mr74 S P 38 L st sh M c s else mr74 S P 36 L st sh M c s) := (propext (mv_R_iff (i := .if_icmp .eq 5) (len := 3) (ax := [38]) (by decide +kernel))).trans (q_br)
theorem e74_36 : mr74 S P 36 L st sh M c s = (mr74 S P 37 L (.int (nI 0) :: st) sh M c s) := propext (mv_R_iff (i := .iconst 0) (len := 1) (ax := []) (by decide +kernel))
theorem e74_37 {x : Int32} : mr74 S P 37 L [.int x] sh M c s = (mv_nr 1 x ∧ P (some (.int x)) sh M) := propext (mv_R_iff (i := .ireturn) (len := 1) (ax := [1]) (by decide +kernel))
theorem e74_38 : mr74 S P 38 L st sh M c s = (q_isI (q_gv L 3) ∧ mr74 S P 39 L (q_gv L 3 :: st) sh M c s) := (propext (mv_R_iff (i := .iload_n 3) (len := 1) (ax := []) (by decide +kernel))).trans (q_ldI_eq (K := fun st => mr74 S P 39 L st sh M c s))
theorem e74_39 : mr74 S P 39 L st sh M c s = (mr74 S P 41 L (.int (nI 10) :: st) sh M c s) := propext (mv_R_iff (i := .bipush 10) (len := 2) (ax := []) (by decide +kernel))
theorem e74_41 {y : Int32} {x : Int32} : mr74 S P 41 L (.int y :: .int x :: st) sh M c s = (¬ y = nI 0 ∧ mr74 S P 42 L (.int (x / y) :: st) sh M c s) := propext (mv_R_iff (i := .idiv) (len := 1) (ax := []) (by decide +kernel))
theorem e74_42 {x : Int32} : mr74 S P 42 L (.int x :: st) sh M c s = (q_hs L 3 ∧ mr74 S P 43 (L.set 3 (some (.int x))) st sh M c s) := (propext (mv_R_iff (i := .istore_n 3) (len := 1) (ax := []) (by decide +kernel))).trans (q_st_eq (K := fun L => mr74 S P 43 L st sh M c s))
theorem e74_43 : mr74 S P 43 L st sh M c s = ((q_isI (q_gv L 4) ∧ q_hs L 4) ∧ mr74 S P 46 (L.set 4 (some (q_inc (q_gv L 4) (Int32.ofInt (-1))))) st sh M c s) := (propext (mv_R_iff (i := .iinc 4 (-1)) (len := 3) (ax := []) (by decide +kernel))).trans (q_inc_eq (K := fun L => mr74 S P 46 L st sh M c s))
theorem e74_46 : mr74 S P 46 L st sh M c s = (mr74 S P 10 L st sh M c s) := propext (mv_R_iff (i := .goto (-36)) (len := 3) (ax := [10]) (by decide +kernel))
theorem e74_49 : mr74 S P 49 L st sh M c s = (q_isI (q_gv L 3) ∧ mr74 S P 50 L (q_gv L 3 :: st) sh M c s) := (propext (mv_R_iff (i := .iload_n 3) (len := 1) (ax := []) (by decide +kernel))).trans (q_ldI_eq (K := fun st => mr74 S P 50 L st sh M c s))
theorem e74_50 {x : Int32} : mr74 S P 50 L (.int x :: st) sh M c s = (if x = nI 0 then mr74 S P 53 L st sh M c s else mr74 S P 57 L st sh M c s) := (propext (mv_R_iff (i := .ifCond .ne 7) (len := 3) (ax := [57]) (by decide +kernel))).trans (q_br')
theorem e74_53 : mr74 S P 53 L st sh M c s = (mr74 S P 54 L (.int (nI 1) :: st) sh M c s) := propext (mv_R_iff (i := .iconst 1) (len := 1) (ax := []) (by decide +kernel))
theorem e74_54 : mr74 S P 54 L st sh M c s = (mr74 S P 58 L st sh M c s) := propext (mv_R_iff (i := .goto 4) (len := 3) (ax := [58]) (by decide +kernel))
theorem e74_57 : mr74 S P 57 L st sh M c s = (mr74 S P 58 L (.int (nI 0) :: st) sh M c s) := propext (mv_R_iff (i := .iconst 0) (len := 1) (ax := []) (by decide +kernel))
theorem e74_58 {x : Int32} : mr74 S P 58 L [.int x] sh M c s = (mv_nr 1 x ∧ P (some (.int x)) sh M) := propext (mv_R_iff (i := .ireturn) (len := 1) (ax := [1]) (by decide +kernel))
-- 75: TurnedTablets.amiss(I)I
def mk75 : mv_Cd := [
  (0, .aload_n 0, 1, []),
  (1, .getfield 19, 3, [524, 0, 4, 1]),
  (4, .iload_n 1, 1, []),
  (5, .invokevirtual 208, 3, [1, 73, 2, 1, 0, 0, 795, 797, 44, 109, 798]),
  (8, .ifCond .ne 5, 3, [13]),
  (11, .iconst (-1), 1, []),
  (12, .ireturn, 1, [0]),
  (13, .aload_n 0, 1, []),
  (14, .getfield 35, 3, [526, 0, 4, 3]),
  (17, .invokevirtual 139, 3, [1, 66, 1, 0, 0, 0, 644, 646, 27, 111, 647]),
  (20, .istore_n 2, 1, []),
  (21, .iconst 0, 1, []),
  (22, .istore_n 3, 1, []),
  (23, .iconst 0, 1, []),
  (24, .istore 4, 2, []),
  (26, .iload 4, 2, []),
  (28, .aload_n 0, 1, []),
  (29, .getfield 19, 3, [524, 0, 4, 1]),
  (32, .getfield 86, 3, [168, 1, 1, 0]),
  (35, .if_icmp .ge 68, 3, [103]),
  (38, .aload_n 0, 1, []),
  (39, .getfield 19, 3, [524, 0, 4, 1]),
  (42, .iload_n 2, 1, []),
  (43, .iload 4, 2, []),
  (45, .iconst 1, 1, []),
  (46, .invokestatic 248, 3, [3, 65, 2, 0, 0, 0, 0, 927, 649, 104, 650]),
  (49, .invokestatic 195, 3, [3, 51, 2, 0, 0, 0, 0, 777, 778, 104, 779]),
  (52, .iload_n 1, 1, []),
  (53, .invokevirtual 251, 3, [1, 74, 3, 1, 0, 0, 928, 820, 49, 109, 821]),
  (56, .ifCond .eq 10, 3, [66]),
  (59, .iload_n 3, 1, []),
  (60, .iconst 1, 1, []),
  (61, .iload 4, 2, []),
  (63, .ishl, 1, []),
  (64, .ior, 1, []),
  (65, .istore_n 3, 1, []),
  (66, .aload_n 0, 1, []),
  (67, .getfield 19, 3, [524, 0, 4, 1]),
  (70, .iload_n 2, 1, []),
  (71, .iload 4, 2, []),
  (73, .iconst 3, 1, []),
  (74, .invokestatic 248, 3, [3, 65, 2, 0, 0, 0, 0, 927, 649, 104, 650]),
  (77, .invokestatic 195, 3, [3, 51, 2, 0, 0, 0, 0, 777, 778, 104, 779]),
  (80, .iload_n 1, 1, []),
  (81, .invokevirtual 251, 3, [1, 74, 3, 1, 0, 0, 928, 820, 49, 109, 821]),
  (84, .ifCond .eq 13, 3, [97]),
  (87, .iload_n 3, 1, []),
  (88, .iconst 1, 1, []),
  (89, .iload 4, 2, []),
  (91, .bipush 6, 2, []),
  (93, .iadd, 1, []),
  (94, .ishl, 1, []),
  (95, .ior, 1, []),
  (96, .istore_n 3, 1, []),
  (97, .iinc 4 1, 3, []),
  (100, .goto (-74), 3, [26]),
  (103, .iload_n 3, 1, []),
  (104, .ireturn, 1, [0])]
def mr75 (S : Nat → mv_Sp) (P : mv_Post) : mv_Kt := mv_R mv_DF mk75 S (0, 0) P
theorem e75_0 : mr75 S P 0 L st sh M c s = (q_isA (q_gv L 0) ∧ mr75 S P 1 L (q_gv L 0 :: st) sh M c s) := (propext (mv_R_iff (i := .aload_n 0) (len := 1) (ax := []) (by decide +kernel))).trans (q_ldA_eq (K := fun st => mr75 S P 1 L st sh M c s))
theorem e75_1 {a : Nat} : mr75 S P 1 L (.ref a :: st) sh M c s = (mv_kgf sh M a 4 1 (mr75 S P) 4 L st c s) := propext (mv_R_iff (i := .getfield 19) (len := 3) (ax := [524, 0, 4, 1]) (by decide +kernel))
theorem e75_4 : mr75 S P 4 L st sh M c s = (q_isI (q_gv L 1) ∧ mr75 S P 5 L (q_gv L 1 :: st) sh M c s) := (propext (mv_R_iff (i := .iload_n 1) (len := 1) (ax := []) (by decide +kernel))).trans (q_ldI_eq (K := fun st => mr75 S P 5 L st sh M c s))
theorem e75_5 {v2 : Value} {v1 : Value} : mr75 S P 5 L (v2 :: v1 :: st) sh M c s = (mv_ss st ≤ 8 ∧ c ≤ 0 ∧ s ≤ 0 ∧ mv_isO sh (some v1) 1 ∧ mv_kal S 73 [v1, v2] sh M (mr75 S P) 8 L st c s) := (propext (mv_R_iff (i := .invokevirtual 208) (len := 3) (ax := [1, 73, 2, 1, 0, 0, 795, 797, 44, 109, 798]) (by decide +kernel))).trans (q_call1)
theorem e75_8 {x : Int32} : mr75 S P 8 L (.int x :: st) sh M c s = (if x = nI 0 then mr75 S P 11 L st sh M c s else mr75 S P 13 L st sh M c s) := (propext (mv_R_iff (i := .ifCond .ne 5) (len := 3) (ax := [13]) (by decide +kernel))).trans (q_br')
theorem e75_11 : mr75 S P 11 L st sh M c s = (mr75 S P 12 L (.int (Int32.ofInt (-1)) :: st) sh M c s) := propext (mv_R_iff (i := .iconst (-1)) (len := 1) (ax := []) (by decide +kernel))
theorem e75_12 {x : Int32} : mr75 S P 12 L [.int x] sh M c s = (mv_nr 0 x ∧ P (some (.int x)) sh M) := propext (mv_R_iff (i := .ireturn) (len := 1) (ax := [0]) (by decide +kernel))
theorem e75_13 : mr75 S P 13 L st sh M c s = (q_isA (q_gv L 0) ∧ mr75 S P 14 L (q_gv L 0 :: st) sh M c s) := (propext (mv_R_iff (i := .aload_n 0) (len := 1) (ax := []) (by decide +kernel))).trans (q_ldA_eq (K := fun st => mr75 S P 14 L st sh M c s))
theorem e75_14 {a : Nat} : mr75 S P 14 L (.ref a :: st) sh M c s = (mv_kgf sh M a 4 3 (mr75 S P) 17 L st c s) := propext (mv_R_iff (i := .getfield 35) (len := 3) (ax := [526, 0, 4, 3]) (by decide +kernel))
theorem e75_17 {v1 : Value} : mr75 S P 17 L (v1 :: st) sh M c s = (mv_ss st ≤ 8 ∧ c ≤ 0 ∧ s ≤ 0 ∧ mv_isO sh (some v1) 0 ∧ mv_kal S 66 [v1] sh M (mr75 S P) 20 L st c s) := (propext (mv_R_iff (i := .invokevirtual 139) (len := 3) (ax := [1, 66, 1, 0, 0, 0, 644, 646, 27, 111, 647]) (by decide +kernel))).trans (q_call1)
theorem e75_20 {x : Int32} : mr75 S P 20 L (.int x :: st) sh M c s = (q_hs L 2 ∧ mr75 S P 21 (L.set 2 (some (.int x))) st sh M c s) := (propext (mv_R_iff (i := .istore_n 2) (len := 1) (ax := []) (by decide +kernel))).trans (q_st_eq (K := fun L => mr75 S P 21 L st sh M c s))
theorem e75_21 : mr75 S P 21 L st sh M c s = (mr75 S P 22 L (.int (nI 0) :: st) sh M c s) := propext (mv_R_iff (i := .iconst 0) (len := 1) (ax := []) (by decide +kernel))
theorem e75_22 {x : Int32} : mr75 S P 22 L (.int x :: st) sh M c s = (q_hs L 3 ∧ mr75 S P 23 (L.set 3 (some (.int x))) st sh M c s) := (propext (mv_R_iff (i := .istore_n 3) (len := 1) (ax := []) (by decide +kernel))).trans (q_st_eq (K := fun L => mr75 S P 23 L st sh M c s))
theorem e75_23 : mr75 S P 23 L st sh M c s = (mr75 S P 24 L (.int (nI 0) :: st) sh M c s) := propext (mv_R_iff (i := .iconst 0) (len := 1) (ax := []) (by decide +kernel))
theorem e75_24 {x : Int32} : mr75 S P 24 L (.int x :: st) sh M c s = (q_hs L 4 ∧ mr75 S P 26 (L.set 4 (some (.int x))) st sh M c s) := (propext (mv_R_iff (i := .istore 4) (len := 2) (ax := []) (by decide +kernel))).trans (q_st_eq (K := fun L => mr75 S P 26 L st sh M c s))
theorem e75_26 : mr75 S P 26 L st sh M c s = (q_isI (q_gv L 4) ∧ mr75 S P 28 L (q_gv L 4 :: st) sh M c s) := (propext (mv_R_iff (i := .iload 4) (len := 2) (ax := []) (by decide +kernel))).trans (q_ldI_eq (K := fun st => mr75 S P 28 L st sh M c s))
theorem e75_28 : mr75 S P 28 L st sh M c s = (q_isA (q_gv L 0) ∧ mr75 S P 29 L (q_gv L 0 :: st) sh M c s) := (propext (mv_R_iff (i := .aload_n 0) (len := 1) (ax := []) (by decide +kernel))).trans (q_ldA_eq (K := fun st => mr75 S P 29 L st sh M c s))
theorem e75_29 {a : Nat} : mr75 S P 29 L (.ref a :: st) sh M c s = (mv_kgf sh M a 4 1 (mr75 S P) 32 L st c s) := propext (mv_R_iff (i := .getfield 19) (len := 3) (ax := [524, 0, 4, 1]) (by decide +kernel))
theorem e75_32 {a : Nat} : mr75 S P 32 L (.ref a :: st) sh M c s = (mv_kgf sh M a 1 0 (mr75 S P) 35 L st c s) := propext (mv_R_iff (i := .getfield 86) (len := 3) (ax := [168, 1, 1, 0]) (by decide +kernel))
theorem e75_35 {y : Int32} {x : Int32} : mr75 S P 35 L (.int y :: .int x :: st) sh M c s = (if y ≤ x then mr75 S P 103 L st sh M c s else mr75 S P 38 L st sh M c s) := (propext (mv_R_iff (i := .if_icmp .ge 68) (len := 3) (ax := [103]) (by decide +kernel))).trans (q_br)
theorem e75_38 : mr75 S P 38 L st sh M c s = (q_isA (q_gv L 0) ∧ mr75 S P 39 L (q_gv L 0 :: st) sh M c s) := (propext (mv_R_iff (i := .aload_n 0) (len := 1) (ax := []) (by decide +kernel))).trans (q_ldA_eq (K := fun st => mr75 S P 39 L st sh M c s))
theorem e75_39 {a : Nat} : mr75 S P 39 L (.ref a :: st) sh M c s = (mv_kgf sh M a 4 1 (mr75 S P) 42 L st c s) := propext (mv_R_iff (i := .getfield 19) (len := 3) (ax := [524, 0, 4, 1]) (by decide +kernel))
theorem e75_42 : mr75 S P 42 L st sh M c s = (q_isI (q_gv L 2) ∧ mr75 S P 43 L (q_gv L 2 :: st) sh M c s) := (propext (mv_R_iff (i := .iload_n 2) (len := 1) (ax := []) (by decide +kernel))).trans (q_ldI_eq (K := fun st => mr75 S P 43 L st sh M c s))
theorem e75_43 : mr75 S P 43 L st sh M c s = (q_isI (q_gv L 4) ∧ mr75 S P 45 L (q_gv L 4 :: st) sh M c s) := (propext (mv_R_iff (i := .iload 4) (len := 2) (ax := []) (by decide +kernel))).trans (q_ldI_eq (K := fun st => mr75 S P 45 L st sh M c s))
theorem e75_45 : mr75 S P 45 L st sh M c s = (mr75 S P 46 L (.int (nI 1) :: st) sh M c s) := propext (mv_R_iff (i := .iconst 1) (len := 1) (ax := []) (by decide +kernel))
theorem e75_46 {v2 : Value} {v1 : Value} : mr75 S P 46 L (v2 :: v1 :: st) sh M c s = (mv_ss st ≤ 8 ∧ c ≤ 0 ∧ s ≤ 0 ∧ True ∧ mv_kal S 65 [v1, v2] sh M (mr75 S P) 49 L st c s) := (propext (mv_R_iff (i := .invokestatic 248) (len := 3) (ax := [3, 65, 2, 0, 0, 0, 0, 927, 649, 104, 650]) (by decide +kernel))).trans (q_call3)
theorem e75_49 {v2 : Value} {v1 : Value} : mr75 S P 49 L (v2 :: v1 :: st) sh M c s = (mv_ss st ≤ 8 ∧ c ≤ 0 ∧ s ≤ 0 ∧ True ∧ mv_kal S 51 [v1, v2] sh M (mr75 S P) 52 L st c s) := (propext (mv_R_iff (i := .invokestatic 195) (len := 3) (ax := [3, 51, 2, 0, 0, 0, 0, 777, 778, 104, 779]) (by decide +kernel))).trans (q_call3)
theorem e75_52 : mr75 S P 52 L st sh M c s = (q_isI (q_gv L 1) ∧ mr75 S P 53 L (q_gv L 1 :: st) sh M c s) := (propext (mv_R_iff (i := .iload_n 1) (len := 1) (ax := []) (by decide +kernel))).trans (q_ldI_eq (K := fun st => mr75 S P 53 L st sh M c s))
theorem e75_53 {v3 : Value} {v2 : Value} {v1 : Value} : mr75 S P 53 L (v3 :: v2 :: v1 :: st) sh M c s = (mv_ss st ≤ 8 ∧ c ≤ 0 ∧ s ≤ 0 ∧ mv_isO sh (some v1) 1 ∧ mv_kal S 74 [v1, v2, v3] sh M (mr75 S P) 56 L st c s) := (propext (mv_R_iff (i := .invokevirtual 251) (len := 3) (ax := [1, 74, 3, 1, 0, 0, 928, 820, 49, 109, 821]) (by decide +kernel))).trans (q_call1)
theorem e75_56 {x : Int32} : mr75 S P 56 L (.int x :: st) sh M c s = (if x = nI 0 then mr75 S P 66 L st sh M c s else mr75 S P 59 L st sh M c s) := (propext (mv_R_iff (i := .ifCond .eq 10) (len := 3) (ax := [66]) (by decide +kernel))).trans (q_br)
theorem e75_59 : mr75 S P 59 L st sh M c s = (q_isI (q_gv L 3) ∧ mr75 S P 60 L (q_gv L 3 :: st) sh M c s) := (propext (mv_R_iff (i := .iload_n 3) (len := 1) (ax := []) (by decide +kernel))).trans (q_ldI_eq (K := fun st => mr75 S P 60 L st sh M c s))
theorem e75_60 : mr75 S P 60 L st sh M c s = (mr75 S P 61 L (.int (nI 1) :: st) sh M c s) := propext (mv_R_iff (i := .iconst 1) (len := 1) (ax := []) (by decide +kernel))
theorem e75_61 : mr75 S P 61 L st sh M c s = (q_isI (q_gv L 4) ∧ mr75 S P 63 L (q_gv L 4 :: st) sh M c s) := (propext (mv_R_iff (i := .iload 4) (len := 2) (ax := []) (by decide +kernel))).trans (q_ldI_eq (K := fun st => mr75 S P 63 L st sh M c s))
theorem e75_63 {y : Int32} {x : Int32} : mr75 S P 63 L (.int y :: .int x :: st) sh M c s = (mr75 S P 64 L (.int (x <<< (y &&& 31)) :: st) sh M c s) := propext (mv_R_iff (i := .ishl) (len := 1) (ax := []) (by decide +kernel))
theorem e75_64 {y : Int32} {x : Int32} : mr75 S P 64 L (.int y :: .int x :: st) sh M c s = (mr75 S P 65 L (.int (x ||| y) :: st) sh M c s) := propext (mv_R_iff (i := .ior) (len := 1) (ax := []) (by decide +kernel))
theorem e75_65 {x : Int32} : mr75 S P 65 L (.int x :: st) sh M c s = (q_hs L 3 ∧ mr75 S P 66 (L.set 3 (some (.int x))) st sh M c s) := (propext (mv_R_iff (i := .istore_n 3) (len := 1) (ax := []) (by decide +kernel))).trans (q_st_eq (K := fun L => mr75 S P 66 L st sh M c s))
theorem e75_66 : mr75 S P 66 L st sh M c s = (q_isA (q_gv L 0) ∧ mr75 S P 67 L (q_gv L 0 :: st) sh M c s) := (propext (mv_R_iff (i := .aload_n 0) (len := 1) (ax := []) (by decide +kernel))).trans (q_ldA_eq (K := fun st => mr75 S P 67 L st sh M c s))
theorem e75_67 {a : Nat} : mr75 S P 67 L (.ref a :: st) sh M c s = (mv_kgf sh M a 4 1 (mr75 S P) 70 L st c s) := propext (mv_R_iff (i := .getfield 19) (len := 3) (ax := [524, 0, 4, 1]) (by decide +kernel))
theorem e75_70 : mr75 S P 70 L st sh M c s = (q_isI (q_gv L 2) ∧ mr75 S P 71 L (q_gv L 2 :: st) sh M c s) := (propext (mv_R_iff (i := .iload_n 2) (len := 1) (ax := []) (by decide +kernel))).trans (q_ldI_eq (K := fun st => mr75 S P 71 L st sh M c s))
theorem e75_71 : mr75 S P 71 L st sh M c s = (q_isI (q_gv L 4) ∧ mr75 S P 73 L (q_gv L 4 :: st) sh M c s) := (propext (mv_R_iff (i := .iload 4) (len := 2) (ax := []) (by decide +kernel))).trans (q_ldI_eq (K := fun st => mr75 S P 73 L st sh M c s))
theorem e75_73 : mr75 S P 73 L st sh M c s = (mr75 S P 74 L (.int (nI 3) :: st) sh M c s) := propext (mv_R_iff (i := .iconst 3) (len := 1) (ax := []) (by decide +kernel))
theorem e75_74 {v2 : Value} {v1 : Value} : mr75 S P 74 L (v2 :: v1 :: st) sh M c s = (mv_ss st ≤ 8 ∧ c ≤ 0 ∧ s ≤ 0 ∧ True ∧ mv_kal S 65 [v1, v2] sh M (mr75 S P) 77 L st c s) := (propext (mv_R_iff (i := .invokestatic 248) (len := 3) (ax := [3, 65, 2, 0, 0, 0, 0, 927, 649, 104, 650]) (by decide +kernel))).trans (q_call3)
theorem e75_77 {v2 : Value} {v1 : Value} : mr75 S P 77 L (v2 :: v1 :: st) sh M c s = (mv_ss st ≤ 8 ∧ c ≤ 0 ∧ s ≤ 0 ∧ True ∧ mv_kal S 51 [v1, v2] sh M (mr75 S P) 80 L st c s) := (propext (mv_R_iff (i := .invokestatic 195) (len := 3) (ax := [3, 51, 2, 0, 0, 0, 0, 777, 778, 104, 779]) (by decide +kernel))).trans (q_call3)
theorem e75_80 : mr75 S P 80 L st sh M c s = (q_isI (q_gv L 1) ∧ mr75 S P 81 L (q_gv L 1 :: st) sh M c s) := (propext (mv_R_iff (i := .iload_n 1) (len := 1) (ax := []) (by decide +kernel))).trans (q_ldI_eq (K := fun st => mr75 S P 81 L st sh M c s))
theorem e75_81 {v3 : Value} {v2 : Value} {v1 : Value} : mr75 S P 81 L (v3 :: v2 :: v1 :: st) sh M c s = (mv_ss st ≤ 8 ∧ c ≤ 0 ∧ s ≤ 0 ∧ mv_isO sh (some v1) 1 ∧ mv_kal S 74 [v1, v2, v3] sh M (mr75 S P) 84 L st c s) := (propext (mv_R_iff (i := .invokevirtual 251) (len := 3) (ax := [1, 74, 3, 1, 0, 0, 928, 820, 49, 109, 821]) (by decide +kernel))).trans (q_call1)
theorem e75_84 {x : Int32} : mr75 S P 84 L (.int x :: st) sh M c s = (if x = nI 0 then mr75 S P 97 L st sh M c s else mr75 S P 87 L st sh M c s) := (propext (mv_R_iff (i := .ifCond .eq 13) (len := 3) (ax := [97]) (by decide +kernel))).trans (q_br)
theorem e75_87 : mr75 S P 87 L st sh M c s = (q_isI (q_gv L 3) ∧ mr75 S P 88 L (q_gv L 3 :: st) sh M c s) := (propext (mv_R_iff (i := .iload_n 3) (len := 1) (ax := []) (by decide +kernel))).trans (q_ldI_eq (K := fun st => mr75 S P 88 L st sh M c s))
theorem e75_88 : mr75 S P 88 L st sh M c s = (mr75 S P 89 L (.int (nI 1) :: st) sh M c s) := propext (mv_R_iff (i := .iconst 1) (len := 1) (ax := []) (by decide +kernel))
theorem e75_89 : mr75 S P 89 L st sh M c s = (q_isI (q_gv L 4) ∧ mr75 S P 91 L (q_gv L 4 :: st) sh M c s) := (propext (mv_R_iff (i := .iload 4) (len := 2) (ax := []) (by decide +kernel))).trans (q_ldI_eq (K := fun st => mr75 S P 91 L st sh M c s))
theorem e75_91 : mr75 S P 91 L st sh M c s = (mr75 S P 93 L (.int (nI 6) :: st) sh M c s) := propext (mv_R_iff (i := .bipush 6) (len := 2) (ax := []) (by decide +kernel))
theorem e75_93 {y : Int32} {x : Int32} : mr75 S P 93 L (.int y :: .int x :: st) sh M c s = (mr75 S P 94 L (.int (x + y) :: st) sh M c s) := propext (mv_R_iff (i := .iadd) (len := 1) (ax := []) (by decide +kernel))
theorem e75_94 {y : Int32} {x : Int32} : mr75 S P 94 L (.int y :: .int x :: st) sh M c s = (mr75 S P 95 L (.int (x <<< (y &&& 31)) :: st) sh M c s) := propext (mv_R_iff (i := .ishl) (len := 1) (ax := []) (by decide +kernel))
theorem e75_95 {y : Int32} {x : Int32} : mr75 S P 95 L (.int y :: .int x :: st) sh M c s = (mr75 S P 96 L (.int (x ||| y) :: st) sh M c s) := propext (mv_R_iff (i := .ior) (len := 1) (ax := []) (by decide +kernel))
theorem e75_96 {x : Int32} : mr75 S P 96 L (.int x :: st) sh M c s = (q_hs L 3 ∧ mr75 S P 97 (L.set 3 (some (.int x))) st sh M c s) := (propext (mv_R_iff (i := .istore_n 3) (len := 1) (ax := []) (by decide +kernel))).trans (q_st_eq (K := fun L => mr75 S P 97 L st sh M c s))
theorem e75_97 : mr75 S P 97 L st sh M c s = ((q_isI (q_gv L 4) ∧ q_hs L 4) ∧ mr75 S P 100 (L.set 4 (some (q_inc (q_gv L 4) (nI 1)))) st sh M c s) := (propext (mv_R_iff (i := .iinc 4 1) (len := 3) (ax := []) (by decide +kernel))).trans (q_inc_eq (K := fun L => mr75 S P 100 L st sh M c s))
theorem e75_100 : mr75 S P 100 L st sh M c s = (mr75 S P 26 L st sh M c s) := propext (mv_R_iff (i := .goto (-74)) (len := 3) (ax := [26]) (by decide +kernel))
theorem e75_103 : mr75 S P 103 L st sh M c s = (q_isI (q_gv L 3) ∧ mr75 S P 104 L (q_gv L 3 :: st) sh M c s) := (propext (mv_R_iff (i := .iload_n 3) (len := 1) (ax := []) (by decide +kernel))).trans (q_ldI_eq (K := fun st => mr75 S P 104 L st sh M c s))
theorem e75_104 {x : Int32} : mr75 S P 104 L [.int x] sh M c s = (mv_nr 0 x ∧ P (some (.int x)) sh M) := propext (mv_R_iff (i := .ireturn) (len := 1) (ax := [0]) (by decide +kernel))
-- 76: TurnedTablets.back()I
def mk76 : mv_Cd := [
  (0, .aload_n 0, 1, []),
  (1, .getfield 106, 3, [532, 0, 4, 9]),
  (4, .ifCond .ne 6, 3, [10]),
  (7, .bipush (-2), 2, []),
  (9, .ireturn, 1, [0]),
  (10, .aload_n 0, 1, []),
  (11, .dup, 1, []),
  (12, .getfield 106, 3, [532, 0, 4, 9]),
  (15, .iconst 1, 1, []),
  (16, .isub, 1, []),
  (17, .putfield 106, 3, [532, 0, 4, 9, 0]),
  (20, .aload_n 0, 1, []),
  (21, .getfield 35, 3, [526, 0, 4, 3]),
  (24, .aload_n 0, 1, []),
  (25, .getfield 46, 3, [531, 0, 4, 8]),
  (28, .aload_n 0, 1, []),
  (29, .getfield 106, 3, [532, 0, 4, 9]),
  (32, .aaload, 1, []),
  (33, .invokevirtual 189, 3, [1, 52, 2, 0, 0, 0, 683, 685, 33, 111, 686]),
  (36, .aload_n 0, 1, []),
  (37, .iconst 0, 1, []),
  (38, .putfield 103, 3, [530, 0, 4, 7, 0]),
  (41, .aload_n 0, 1, []),
  (42, .getfield 106, 3, [532, 0, 4, 9]),
  (45, .ireturn, 1, [0])]
def mr76 (S : Nat → mv_Sp) (P : mv_Post) : mv_Kt := mv_R mv_DF mk76 S (0, 0) P
theorem e76_0 : mr76 S P 0 L st sh M c s = (q_isA (q_gv L 0) ∧ mr76 S P 1 L (q_gv L 0 :: st) sh M c s) := (propext (mv_R_iff (i := .aload_n 0) (len := 1) (ax := []) (by decide +kernel))).trans (q_ldA_eq (K := fun st => mr76 S P 1 L st sh M c s))
theorem e76_1 {a : Nat} : mr76 S P 1 L (.ref a :: st) sh M c s = (mv_kgf sh M a 4 9 (mr76 S P) 4 L st c s) := propext (mv_R_iff (i := .getfield 106) (len := 3) (ax := [532, 0, 4, 9]) (by decide +kernel))
theorem e76_4 {x : Int32} : mr76 S P 4 L (.int x :: st) sh M c s = (if x = nI 0 then mr76 S P 7 L st sh M c s else mr76 S P 10 L st sh M c s) := (propext (mv_R_iff (i := .ifCond .ne 6) (len := 3) (ax := [10]) (by decide +kernel))).trans (q_br')
theorem e76_7 : mr76 S P 7 L st sh M c s = (mr76 S P 9 L (.int (Int32.ofInt (-2)) :: st) sh M c s) := (propext (mv_R_iff (i := .bipush (-2)) (len := 2) (ax := []) (by decide +kernel))).trans (congrArg (fun z => mr76 S P 9 L (.int z :: st) sh M c s) (by decide : (Int8.ofInt (-2)).toInt32 = Int32.ofInt (-2)))
theorem e76_9 {x : Int32} : mr76 S P 9 L [.int x] sh M c s = (mv_nr 0 x ∧ P (some (.int x)) sh M) := propext (mv_R_iff (i := .ireturn) (len := 1) (ax := [0]) (by decide +kernel))
theorem e76_10 : mr76 S P 10 L st sh M c s = (q_isA (q_gv L 0) ∧ mr76 S P 11 L (q_gv L 0 :: st) sh M c s) := (propext (mv_R_iff (i := .aload_n 0) (len := 1) (ax := []) (by decide +kernel))).trans (q_ldA_eq (K := fun st => mr76 S P 11 L st sh M c s))
theorem e76_11 {x : Int32} : mr76 S P 11 L (.int x :: st) sh M c s = (mr76 S P 12 L (.int x :: .int x :: st) sh M c s) := propext (mv_R_iff (i := .dup) (len := 1) (ax := []) (by decide +kernel))
theorem e76_11r {x : Nat} : mr76 S P 11 L (.ref x :: st) sh M c s = (mr76 S P 12 L (.ref x :: .ref x :: st) sh M c s) := propext (mv_R_iff (i := .dup) (len := 1) (ax := []) (by decide +kernel))
theorem e76_12 {a : Nat} : mr76 S P 12 L (.ref a :: st) sh M c s = (mv_kgf sh M a 4 9 (mr76 S P) 15 L st c s) := propext (mv_R_iff (i := .getfield 106) (len := 3) (ax := [532, 0, 4, 9]) (by decide +kernel))
theorem e76_15 : mr76 S P 15 L st sh M c s = (mr76 S P 16 L (.int (nI 1) :: st) sh M c s) := propext (mv_R_iff (i := .iconst 1) (len := 1) (ax := []) (by decide +kernel))
theorem e76_16 {y : Int32} {x : Int32} : mr76 S P 16 L (.int y :: .int x :: st) sh M c s = (mr76 S P 17 L (.int (x - y) :: st) sh M c s) := propext (mv_R_iff (i := .isub) (len := 1) (ax := []) (by decide +kernel))
theorem e76_17 {x : Int32} {a : Nat} : mr76 S P 17 L (.int x :: .ref a :: st) sh M c s = (True ∧ mv_kpf sh M a 4 9 x (mr76 S P) 20 L st c s) := propext (mv_R_iff (i := .putfield 106) (len := 3) (ax := [532, 0, 4, 9, 0]) (by decide +kernel))
theorem e76_20 : mr76 S P 20 L st sh M c s = (q_isA (q_gv L 0) ∧ mr76 S P 21 L (q_gv L 0 :: st) sh M c s) := (propext (mv_R_iff (i := .aload_n 0) (len := 1) (ax := []) (by decide +kernel))).trans (q_ldA_eq (K := fun st => mr76 S P 21 L st sh M c s))
theorem e76_21 {a : Nat} : mr76 S P 21 L (.ref a :: st) sh M c s = (mv_kgf sh M a 4 3 (mr76 S P) 24 L st c s) := propext (mv_R_iff (i := .getfield 35) (len := 3) (ax := [526, 0, 4, 3]) (by decide +kernel))
theorem e76_24 : mr76 S P 24 L st sh M c s = (q_isA (q_gv L 0) ∧ mr76 S P 25 L (q_gv L 0 :: st) sh M c s) := (propext (mv_R_iff (i := .aload_n 0) (len := 1) (ax := []) (by decide +kernel))).trans (q_ldA_eq (K := fun st => mr76 S P 25 L st sh M c s))
theorem e76_25 {a : Nat} : mr76 S P 25 L (.ref a :: st) sh M c s = (mv_kgf sh M a 4 8 (mr76 S P) 28 L st c s) := propext (mv_R_iff (i := .getfield 46) (len := 3) (ax := [531, 0, 4, 8]) (by decide +kernel))
theorem e76_28 : mr76 S P 28 L st sh M c s = (q_isA (q_gv L 0) ∧ mr76 S P 29 L (q_gv L 0 :: st) sh M c s) := (propext (mv_R_iff (i := .aload_n 0) (len := 1) (ax := []) (by decide +kernel))).trans (q_ldA_eq (K := fun st => mr76 S P 29 L st sh M c s))
theorem e76_29 {a : Nat} : mr76 S P 29 L (.ref a :: st) sh M c s = (mv_kgf sh M a 4 9 (mr76 S P) 32 L st c s) := propext (mv_R_iff (i := .getfield 106) (len := 3) (ax := [532, 0, 4, 9]) (by decide +kernel))
theorem e76_32 {i : Int32} {a : Nat} : mr76 S P 32 L (.int i :: .ref a :: st) sh M c s = (mv_kal0 sh M a i (mr76 S P) 33 L st c s) := propext (mv_R_iff (i := .aaload) (len := 1) (ax := []) (by decide +kernel))
theorem e76_33 {v2 : Value} {v1 : Value} : mr76 S P 33 L (v2 :: v1 :: st) sh M c s = (mv_ss st ≤ 8 ∧ c ≤ 0 ∧ s ≤ 0 ∧ mv_isO sh (some v1) 0 ∧ mv_kal S 52 [v1, v2] sh M (mr76 S P) 36 L st c s) := (propext (mv_R_iff (i := .invokevirtual 189) (len := 3) (ax := [1, 52, 2, 0, 0, 0, 683, 685, 33, 111, 686]) (by decide +kernel))).trans (q_call1)
theorem e76_36 : mr76 S P 36 L st sh M c s = (q_isA (q_gv L 0) ∧ mr76 S P 37 L (q_gv L 0 :: st) sh M c s) := (propext (mv_R_iff (i := .aload_n 0) (len := 1) (ax := []) (by decide +kernel))).trans (q_ldA_eq (K := fun st => mr76 S P 37 L st sh M c s))
theorem e76_37 : mr76 S P 37 L st sh M c s = (mr76 S P 38 L (.int (nI 0) :: st) sh M c s) := propext (mv_R_iff (i := .iconst 0) (len := 1) (ax := []) (by decide +kernel))
theorem e76_38 {x : Int32} {a : Nat} : mr76 S P 38 L (.int x :: .ref a :: st) sh M c s = (True ∧ mv_kpf sh M a 4 7 x (mr76 S P) 41 L st c s) := propext (mv_R_iff (i := .putfield 103) (len := 3) (ax := [530, 0, 4, 7, 0]) (by decide +kernel))
theorem e76_41 : mr76 S P 41 L st sh M c s = (q_isA (q_gv L 0) ∧ mr76 S P 42 L (q_gv L 0 :: st) sh M c s) := (propext (mv_R_iff (i := .aload_n 0) (len := 1) (ax := []) (by decide +kernel))).trans (q_ldA_eq (K := fun st => mr76 S P 42 L st sh M c s))
theorem e76_42 {a : Nat} : mr76 S P 42 L (.ref a :: st) sh M c s = (mv_kgf sh M a 4 9 (mr76 S P) 45 L st c s) := propext (mv_R_iff (i := .getfield 106) (len := 3) (ax := [532, 0, 4, 9]) (by decide +kernel))
theorem e76_45 {x : Int32} : mr76 S P 45 L [.int x] sh M c s = (mv_nr 0 x ∧ P (some (.int x)) sh M) := propext (mv_R_iff (i := .ireturn) (len := 1) (ax := [0]) (by decide +kernel))
-- 78: TurnedTablets.combDrawn(I)V
def mk78 : mv_Cd := [
  (0, .aload_n 0, 1, []),
  (1, .getfield 19, 3, [524, 0, 4, 1]),
  (4, .getfield 86, 3, [168, 1, 1, 0]),
  (7, .ifCond .le 24, 3, [31]),
  (10, .aload_n 0, 1, []),
  (11, .getfield 39, 3, [527, 0, 4, 4]),
  (14, .iload_n 1, 1, []),
  (15, .bipush 8, 2, []),
  (17, .idiv, 1, []),
  (18, .aload_n 0, 1, []),
  (19, .getfield 19, 3, [524, 0, 4, 1]),
  (22, .getfield 86, 3, [168, 1, 1, 0]),
  (25, .irem, 1, []),
  (26, .iconst 1, 1, []),
  (27, .iconst 0, 1, []),
  (28, .invokevirtual 182, 3, [1, 44, 4, 0, 0, 0, 753, 501, 19, 111, 502]),
  (31, .return_, 1, [])]
def mr78 (S : Nat → mv_Sp) (P : mv_Post) : mv_Kt := mv_R mv_DF mk78 S (0, 0) P
theorem e78_0 : mr78 S P 0 L st sh M c s = (q_isA (q_gv L 0) ∧ mr78 S P 1 L (q_gv L 0 :: st) sh M c s) := (propext (mv_R_iff (i := .aload_n 0) (len := 1) (ax := []) (by decide +kernel))).trans (q_ldA_eq (K := fun st => mr78 S P 1 L st sh M c s))
theorem e78_1 {a : Nat} : mr78 S P 1 L (.ref a :: st) sh M c s = (mv_kgf sh M a 4 1 (mr78 S P) 4 L st c s) := propext (mv_R_iff (i := .getfield 19) (len := 3) (ax := [524, 0, 4, 1]) (by decide +kernel))
theorem e78_4 {a : Nat} : mr78 S P 4 L (.ref a :: st) sh M c s = (mv_kgf sh M a 1 0 (mr78 S P) 7 L st c s) := propext (mv_R_iff (i := .getfield 86) (len := 3) (ax := [168, 1, 1, 0]) (by decide +kernel))
theorem e78_7 {x : Int32} : mr78 S P 7 L (.int x :: st) sh M c s = (if x ≤ nI 0 then mr78 S P 31 L st sh M c s else mr78 S P 10 L st sh M c s) := (propext (mv_R_iff (i := .ifCond .le 24) (len := 3) (ax := [31]) (by decide +kernel))).trans (q_br)
theorem e78_10 : mr78 S P 10 L st sh M c s = (q_isA (q_gv L 0) ∧ mr78 S P 11 L (q_gv L 0 :: st) sh M c s) := (propext (mv_R_iff (i := .aload_n 0) (len := 1) (ax := []) (by decide +kernel))).trans (q_ldA_eq (K := fun st => mr78 S P 11 L st sh M c s))
theorem e78_11 {a : Nat} : mr78 S P 11 L (.ref a :: st) sh M c s = (mv_kgf sh M a 4 4 (mr78 S P) 14 L st c s) := propext (mv_R_iff (i := .getfield 39) (len := 3) (ax := [527, 0, 4, 4]) (by decide +kernel))
theorem e78_14 : mr78 S P 14 L st sh M c s = (q_isI (q_gv L 1) ∧ mr78 S P 15 L (q_gv L 1 :: st) sh M c s) := (propext (mv_R_iff (i := .iload_n 1) (len := 1) (ax := []) (by decide +kernel))).trans (q_ldI_eq (K := fun st => mr78 S P 15 L st sh M c s))
theorem e78_15 : mr78 S P 15 L st sh M c s = (mr78 S P 17 L (.int (nI 8) :: st) sh M c s) := propext (mv_R_iff (i := .bipush 8) (len := 2) (ax := []) (by decide +kernel))
theorem e78_17 {y : Int32} {x : Int32} : mr78 S P 17 L (.int y :: .int x :: st) sh M c s = (¬ y = nI 0 ∧ mr78 S P 18 L (.int (x / y) :: st) sh M c s) := propext (mv_R_iff (i := .idiv) (len := 1) (ax := []) (by decide +kernel))
theorem e78_18 : mr78 S P 18 L st sh M c s = (q_isA (q_gv L 0) ∧ mr78 S P 19 L (q_gv L 0 :: st) sh M c s) := (propext (mv_R_iff (i := .aload_n 0) (len := 1) (ax := []) (by decide +kernel))).trans (q_ldA_eq (K := fun st => mr78 S P 19 L st sh M c s))
theorem e78_19 {a : Nat} : mr78 S P 19 L (.ref a :: st) sh M c s = (mv_kgf sh M a 4 1 (mr78 S P) 22 L st c s) := propext (mv_R_iff (i := .getfield 19) (len := 3) (ax := [524, 0, 4, 1]) (by decide +kernel))
theorem e78_22 {a : Nat} : mr78 S P 22 L (.ref a :: st) sh M c s = (mv_kgf sh M a 1 0 (mr78 S P) 25 L st c s) := propext (mv_R_iff (i := .getfield 86) (len := 3) (ax := [168, 1, 1, 0]) (by decide +kernel))
theorem e78_25 {y : Int32} {x : Int32} : mr78 S P 25 L (.int y :: .int x :: st) sh M c s = (¬ y = nI 0 ∧ mr78 S P 26 L (.int (q_rm x y) :: st) sh M c s) := propext (mv_R_iff (i := .irem) (len := 1) (ax := []) (by decide +kernel))
theorem e78_26 : mr78 S P 26 L st sh M c s = (mr78 S P 27 L (.int (nI 1) :: st) sh M c s) := propext (mv_R_iff (i := .iconst 1) (len := 1) (ax := []) (by decide +kernel))
theorem e78_27 : mr78 S P 27 L st sh M c s = (mr78 S P 28 L (.int (nI 0) :: st) sh M c s) := propext (mv_R_iff (i := .iconst 0) (len := 1) (ax := []) (by decide +kernel))
theorem e78_28 {v4 : Value} {v3 : Value} {v2 : Value} {v1 : Value} : mr78 S P 28 L (v4 :: v3 :: v2 :: v1 :: st) sh M c s = (mv_ss st ≤ 8 ∧ c ≤ 0 ∧ s ≤ 0 ∧ mv_isO sh (some v1) 0 ∧ mv_kal S 44 [v1, v2, v3, v4] sh M (mr78 S P) 31 L st c s) := (propext (mv_R_iff (i := .invokevirtual 182) (len := 3) (ax := [1, 44, 4, 0, 0, 0, 753, 501, 19, 111, 502]) (by decide +kernel))).trans (q_call1)
theorem e78_31 : mr78 S P 31 L [] sh M c s = (P none sh M) := propext (mv_R_iff (i := .return_) (len := 1) (ax := []) (by decide +kernel))
-- 80: Loom.step(II)I
def mk80 : mv_Cd := [
  (0, .iconst 0, 1, []),
  (1, .istore_n 3, 1, []),
  (2, .iconst 0, 1, []),
  (3, .istore 4, 2, []),
  (5, .iload 4, 2, []),
  (7, .aload_n 0, 1, []),
  (8, .getfield 30, 3, [167, 0, 1, 0]),
  (11, .if_icmp .ge 36, 3, [47]),
  (14, .aload_n 0, 1, []),
  (15, .iload_n 1, 1, []),
  (16, .iload 4, 2, []),
  (18, .invokevirtual 66, 3, [0, 58, 3, 1, 0, 0, 0, 774, 699, 36, 109, 700]),
  (21, .ifCond .eq 20, 3, [41]),
  (24, .iload_n 3, 1, []),
  (25, .iload 4, 2, []),
  (27, .aload_n 0, 1, []),
  (28, .iload 4, 2, []),
  (30, .iload_n 2, 1, []),
  (31, .invokevirtual 70, 3, [0, 60, 3, 1, 0, 0, 0, 775, 712, 39, 109, 713]),
  (34, .iconst 3, 1, []),
  (35, .iand, 1, []),
  (36, .invokestatic 73, 3, [4, 65, 2, 0, 0, 0, 776, 649, 104, 650]),
  (39, .ior, 1, []),
  (40, .istore_n 3, 1, []),
  (41, .iinc 4 1, 3, []),
  (44, .goto (-39), 3, [5]),
  (47, .iload_n 3, 1, []),
  (48, .ireturn, 1, [0])]
def mr80 (S : Nat → mv_Sp) (P : mv_Post) : mv_Kt := mv_R mv_DF mk80 S (0, 0) P
theorem e80_0 : mr80 S P 0 L st sh M c s = (mr80 S P 1 L (.int (nI 0) :: st) sh M c s) := propext (mv_R_iff (i := .iconst 0) (len := 1) (ax := []) (by decide +kernel))
theorem e80_1 {x : Int32} : mr80 S P 1 L (.int x :: st) sh M c s = (q_hs L 3 ∧ mr80 S P 2 (L.set 3 (some (.int x))) st sh M c s) := (propext (mv_R_iff (i := .istore_n 3) (len := 1) (ax := []) (by decide +kernel))).trans (q_st_eq (K := fun L => mr80 S P 2 L st sh M c s))
theorem e80_2 : mr80 S P 2 L st sh M c s = (mr80 S P 3 L (.int (nI 0) :: st) sh M c s) := propext (mv_R_iff (i := .iconst 0) (len := 1) (ax := []) (by decide +kernel))
theorem e80_3 {x : Int32} : mr80 S P 3 L (.int x :: st) sh M c s = (q_hs L 4 ∧ mr80 S P 5 (L.set 4 (some (.int x))) st sh M c s) := (propext (mv_R_iff (i := .istore 4) (len := 2) (ax := []) (by decide +kernel))).trans (q_st_eq (K := fun L => mr80 S P 5 L st sh M c s))
theorem e80_5 : mr80 S P 5 L st sh M c s = (q_isI (q_gv L 4) ∧ mr80 S P 7 L (q_gv L 4 :: st) sh M c s) := (propext (mv_R_iff (i := .iload 4) (len := 2) (ax := []) (by decide +kernel))).trans (q_ldI_eq (K := fun st => mr80 S P 7 L st sh M c s))
theorem e80_7 : mr80 S P 7 L st sh M c s = (q_isA (q_gv L 0) ∧ mr80 S P 8 L (q_gv L 0 :: st) sh M c s) := (propext (mv_R_iff (i := .aload_n 0) (len := 1) (ax := []) (by decide +kernel))).trans (q_ldA_eq (K := fun st => mr80 S P 8 L st sh M c s))
theorem e80_8 {a : Nat} : mr80 S P 8 L (.ref a :: st) sh M c s = (mv_kgf sh M a 1 0 (mr80 S P) 11 L st c s) := propext (mv_R_iff (i := .getfield 30) (len := 3) (ax := [167, 0, 1, 0]) (by decide +kernel))
theorem e80_11 {y : Int32} {x : Int32} : mr80 S P 11 L (.int y :: .int x :: st) sh M c s = (if y ≤ x then mr80 S P 47 L st sh M c s else mr80 S P 14 L st sh M c s) := (propext (mv_R_iff (i := .if_icmp .ge 36) (len := 3) (ax := [47]) (by decide +kernel))).trans (q_br)
theorem e80_14 : mr80 S P 14 L st sh M c s = (q_isA (q_gv L 0) ∧ mr80 S P 15 L (q_gv L 0 :: st) sh M c s) := (propext (mv_R_iff (i := .aload_n 0) (len := 1) (ax := []) (by decide +kernel))).trans (q_ldA_eq (K := fun st => mr80 S P 15 L st sh M c s))
theorem e80_15 : mr80 S P 15 L st sh M c s = (q_isI (q_gv L 1) ∧ mr80 S P 16 L (q_gv L 1 :: st) sh M c s) := (propext (mv_R_iff (i := .iload_n 1) (len := 1) (ax := []) (by decide +kernel))).trans (q_ldI_eq (K := fun st => mr80 S P 16 L st sh M c s))
theorem e80_16 : mr80 S P 16 L st sh M c s = (q_isI (q_gv L 4) ∧ mr80 S P 18 L (q_gv L 4 :: st) sh M c s) := (propext (mv_R_iff (i := .iload 4) (len := 2) (ax := []) (by decide +kernel))).trans (q_ldI_eq (K := fun st => mr80 S P 18 L st sh M c s))
theorem e80_18 {v3 : Value} {v2 : Value} {v1 : Value} : mr80 S P 18 L (v3 :: v2 :: v1 :: st) sh M c s = (mv_ss st ≤ 8 ∧ c ≤ 0 ∧ s ≤ 0 ∧ mv_isO sh (some v1) 1 ∧ mv_kal S 58 [v1, v2, v3] sh M (mr80 S P) 21 L st c s) := (propext (mv_R_iff (i := .invokevirtual 66) (len := 3) (ax := [0, 58, 3, 1, 0, 0, 0, 774, 699, 36, 109, 700]) (by decide +kernel))).trans (q_call0)
theorem e80_21 {x : Int32} : mr80 S P 21 L (.int x :: st) sh M c s = (if x = nI 0 then mr80 S P 41 L st sh M c s else mr80 S P 24 L st sh M c s) := (propext (mv_R_iff (i := .ifCond .eq 20) (len := 3) (ax := [41]) (by decide +kernel))).trans (q_br)
theorem e80_24 : mr80 S P 24 L st sh M c s = (q_isI (q_gv L 3) ∧ mr80 S P 25 L (q_gv L 3 :: st) sh M c s) := (propext (mv_R_iff (i := .iload_n 3) (len := 1) (ax := []) (by decide +kernel))).trans (q_ldI_eq (K := fun st => mr80 S P 25 L st sh M c s))
theorem e80_25 : mr80 S P 25 L st sh M c s = (q_isI (q_gv L 4) ∧ mr80 S P 27 L (q_gv L 4 :: st) sh M c s) := (propext (mv_R_iff (i := .iload 4) (len := 2) (ax := []) (by decide +kernel))).trans (q_ldI_eq (K := fun st => mr80 S P 27 L st sh M c s))
theorem e80_27 : mr80 S P 27 L st sh M c s = (q_isA (q_gv L 0) ∧ mr80 S P 28 L (q_gv L 0 :: st) sh M c s) := (propext (mv_R_iff (i := .aload_n 0) (len := 1) (ax := []) (by decide +kernel))).trans (q_ldA_eq (K := fun st => mr80 S P 28 L st sh M c s))
theorem e80_28 : mr80 S P 28 L st sh M c s = (q_isI (q_gv L 4) ∧ mr80 S P 30 L (q_gv L 4 :: st) sh M c s) := (propext (mv_R_iff (i := .iload 4) (len := 2) (ax := []) (by decide +kernel))).trans (q_ldI_eq (K := fun st => mr80 S P 30 L st sh M c s))
theorem e80_30 : mr80 S P 30 L st sh M c s = (q_isI (q_gv L 2) ∧ mr80 S P 31 L (q_gv L 2 :: st) sh M c s) := (propext (mv_R_iff (i := .iload_n 2) (len := 1) (ax := []) (by decide +kernel))).trans (q_ldI_eq (K := fun st => mr80 S P 31 L st sh M c s))
theorem e80_31 {v3 : Value} {v2 : Value} {v1 : Value} : mr80 S P 31 L (v3 :: v2 :: v1 :: st) sh M c s = (mv_ss st ≤ 8 ∧ c ≤ 0 ∧ s ≤ 0 ∧ mv_isO sh (some v1) 1 ∧ mv_kal S 60 [v1, v2, v3] sh M (mr80 S P) 34 L st c s) := (propext (mv_R_iff (i := .invokevirtual 70) (len := 3) (ax := [0, 60, 3, 1, 0, 0, 0, 775, 712, 39, 109, 713]) (by decide +kernel))).trans (q_call0)
theorem e80_34 : mr80 S P 34 L st sh M c s = (mr80 S P 35 L (.int (nI 3) :: st) sh M c s) := propext (mv_R_iff (i := .iconst 3) (len := 1) (ax := []) (by decide +kernel))
theorem e80_35 {y : Int32} {x : Int32} : mr80 S P 35 L (.int y :: .int x :: st) sh M c s = (mr80 S P 36 L (.int (x &&& y) :: st) sh M c s) := propext (mv_R_iff (i := .iand) (len := 1) (ax := []) (by decide +kernel))
theorem e80_36 {v2 : Value} {v1 : Value} : mr80 S P 36 L (v2 :: v1 :: st) sh M c s = (mv_ss st ≤ 8 ∧ c ≤ 0 ∧ s ≤ 0 ∧ True ∧ mv_kal S 65 [v1, v2] sh M (mr80 S P) 39 L st c s) := (propext (mv_R_iff (i := .invokestatic 73) (len := 3) (ax := [4, 65, 2, 0, 0, 0, 776, 649, 104, 650]) (by decide +kernel))).trans (q_call4)
theorem e80_39 {y : Int32} {x : Int32} : mr80 S P 39 L (.int y :: .int x :: st) sh M c s = (mr80 S P 40 L (.int (x ||| y) :: st) sh M c s) := propext (mv_R_iff (i := .ior) (len := 1) (ax := []) (by decide +kernel))
theorem e80_40 {x : Int32} : mr80 S P 40 L (.int x :: st) sh M c s = (q_hs L 3 ∧ mr80 S P 41 (L.set 3 (some (.int x))) st sh M c s) := (propext (mv_R_iff (i := .istore_n 3) (len := 1) (ax := []) (by decide +kernel))).trans (q_st_eq (K := fun L => mr80 S P 41 L st sh M c s))
theorem e80_41 : mr80 S P 41 L st sh M c s = ((q_isI (q_gv L 4) ∧ q_hs L 4) ∧ mr80 S P 44 (L.set 4 (some (q_inc (q_gv L 4) (nI 1)))) st sh M c s) := (propext (mv_R_iff (i := .iinc 4 1) (len := 3) (ax := []) (by decide +kernel))).trans (q_inc_eq (K := fun L => mr80 S P 44 L st sh M c s))
theorem e80_44 : mr80 S P 44 L st sh M c s = (mr80 S P 5 L st sh M c s) := propext (mv_R_iff (i := .goto (-39)) (len := 3) (ax := [5]) (by decide +kernel))
theorem e80_47 : mr80 S P 47 L st sh M c s = (q_isI (q_gv L 3) ∧ mr80 S P 48 L (q_gv L 3 :: st) sh M c s) := (propext (mv_R_iff (i := .iload_n 3) (len := 1) (ax := []) (by decide +kernel))).trans (q_ldI_eq (K := fun st => mr80 S P 48 L st sh M c s))
theorem e80_48 {x : Int32} : mr80 S P 48 L [.int x] sh M c s = (mv_nr 0 x ∧ P (some (.int x)) sh M) := propext (mv_R_iff (i := .ireturn) (len := 1) (ax := [0]) (by decide +kernel))
-- 81: Search.takeSteps(LTurnedTablets$Loom;)I
def mk81 : mv_Cd := [
  (0, .iconst 0, 1, []),
  (1, .istore_n 2, 1, []),
  (2, .iload_n 2, 1, []),
  (3, .aload_n 1, 1, []),
  (4, .getfield 21, 3, [172, 1, 1, 1]),
  (7, .if_icmp .ge 45, 3, [52]),
  (10, .iload_n 2, 1, []),
  (11, .bipush 6, 2, []),
  (13, .if_icmp .ge 39, 3, [52]),
  (16, .aload_n 0, 1, []),
  (17, .getfield 18, 3, [256, 0, 3, 2]),
  (20, .iconst 2, 1, []),
  (21, .iload_n 2, 1, []),
  (22, .imul, 1, []),
  (23, .aload_n 1, 1, []),
  (24, .iload_n 2, 1, []),
  (25, .iconst 0, 1, []),
  (26, .invokevirtual 27, 3, [1, 80, 3, 1, 0, 0, 807, 772, 43, 109, 773]),
  (29, .iastore, 1, []),
  (30, .aload_n 0, 1, []),
  (31, .getfield 18, 3, [256, 0, 3, 2]),
  (34, .iconst 2, 1, []),
  (35, .iload_n 2, 1, []),
  (36, .imul, 1, []),
  (37, .iconst 1, 1, []),
  (38, .iadd, 1, []),
  (39, .aload_n 1, 1, []),
  (40, .iload_n 2, 1, []),
  (41, .iconst 1, 1, []),
  (42, .invokevirtual 27, 3, [1, 80, 3, 1, 0, 0, 807, 772, 43, 109, 773]),
  (45, .iastore, 1, []),
  (46, .iinc 2 1, 3, []),
  (49, .goto (-47), 3, [2]),
  (52, .iconst 2, 1, []),
  (53, .aload_n 1, 1, []),
  (54, .getfield 21, 3, [172, 1, 1, 1]),
  (57, .bipush 6, 2, []),
  (59, .invokestatic 31, 3, [11, 808, 309, 114, 310]),
  (62, .imul, 1, []),
  (63, .ireturn, 1, [0])]
def mr81 (S : Nat → mv_Sp) (P : mv_Post) : mv_Kt := mv_R mv_DF mk81 S (0, 0) P
theorem e81_0 : mr81 S P 0 L st sh M c s = (mr81 S P 1 L (.int (nI 0) :: st) sh M c s) := propext (mv_R_iff (i := .iconst 0) (len := 1) (ax := []) (by decide +kernel))
theorem e81_1 {x : Int32} : mr81 S P 1 L (.int x :: st) sh M c s = (q_hs L 2 ∧ mr81 S P 2 (L.set 2 (some (.int x))) st sh M c s) := (propext (mv_R_iff (i := .istore_n 2) (len := 1) (ax := []) (by decide +kernel))).trans (q_st_eq (K := fun L => mr81 S P 2 L st sh M c s))
theorem e81_2 : mr81 S P 2 L st sh M c s = (q_isI (q_gv L 2) ∧ mr81 S P 3 L (q_gv L 2 :: st) sh M c s) := (propext (mv_R_iff (i := .iload_n 2) (len := 1) (ax := []) (by decide +kernel))).trans (q_ldI_eq (K := fun st => mr81 S P 3 L st sh M c s))
theorem e81_3 : mr81 S P 3 L st sh M c s = (q_isA (q_gv L 1) ∧ mr81 S P 4 L (q_gv L 1 :: st) sh M c s) := (propext (mv_R_iff (i := .aload_n 1) (len := 1) (ax := []) (by decide +kernel))).trans (q_ldA_eq (K := fun st => mr81 S P 4 L st sh M c s))
theorem e81_4 {a : Nat} : mr81 S P 4 L (.ref a :: st) sh M c s = (mv_kgf sh M a 1 1 (mr81 S P) 7 L st c s) := propext (mv_R_iff (i := .getfield 21) (len := 3) (ax := [172, 1, 1, 1]) (by decide +kernel))
theorem e81_7 {y : Int32} {x : Int32} : mr81 S P 7 L (.int y :: .int x :: st) sh M c s = (if y ≤ x then mr81 S P 52 L st sh M c s else mr81 S P 10 L st sh M c s) := (propext (mv_R_iff (i := .if_icmp .ge 45) (len := 3) (ax := [52]) (by decide +kernel))).trans (q_br)
theorem e81_10 : mr81 S P 10 L st sh M c s = (q_isI (q_gv L 2) ∧ mr81 S P 11 L (q_gv L 2 :: st) sh M c s) := (propext (mv_R_iff (i := .iload_n 2) (len := 1) (ax := []) (by decide +kernel))).trans (q_ldI_eq (K := fun st => mr81 S P 11 L st sh M c s))
theorem e81_11 : mr81 S P 11 L st sh M c s = (mr81 S P 13 L (.int (nI 6) :: st) sh M c s) := propext (mv_R_iff (i := .bipush 6) (len := 2) (ax := []) (by decide +kernel))
theorem e81_13 {y : Int32} {x : Int32} : mr81 S P 13 L (.int y :: .int x :: st) sh M c s = (if y ≤ x then mr81 S P 52 L st sh M c s else mr81 S P 16 L st sh M c s) := (propext (mv_R_iff (i := .if_icmp .ge 39) (len := 3) (ax := [52]) (by decide +kernel))).trans (q_br)
theorem e81_16 : mr81 S P 16 L st sh M c s = (q_isA (q_gv L 0) ∧ mr81 S P 17 L (q_gv L 0 :: st) sh M c s) := (propext (mv_R_iff (i := .aload_n 0) (len := 1) (ax := []) (by decide +kernel))).trans (q_ldA_eq (K := fun st => mr81 S P 17 L st sh M c s))
theorem e81_17 {a : Nat} : mr81 S P 17 L (.ref a :: st) sh M c s = (mv_kgf sh M a 3 2 (mr81 S P) 20 L st c s) := propext (mv_R_iff (i := .getfield 18) (len := 3) (ax := [256, 0, 3, 2]) (by decide +kernel))
theorem e81_20 : mr81 S P 20 L st sh M c s = (mr81 S P 21 L (.int (nI 2) :: st) sh M c s) := propext (mv_R_iff (i := .iconst 2) (len := 1) (ax := []) (by decide +kernel))
theorem e81_21 : mr81 S P 21 L st sh M c s = (q_isI (q_gv L 2) ∧ mr81 S P 22 L (q_gv L 2 :: st) sh M c s) := (propext (mv_R_iff (i := .iload_n 2) (len := 1) (ax := []) (by decide +kernel))).trans (q_ldI_eq (K := fun st => mr81 S P 22 L st sh M c s))
theorem e81_22 {y : Int32} {x : Int32} : mr81 S P 22 L (.int y :: .int x :: st) sh M c s = (mr81 S P 23 L (.int (x * y) :: st) sh M c s) := propext (mv_R_iff (i := .imul) (len := 1) (ax := []) (by decide +kernel))
theorem e81_23 : mr81 S P 23 L st sh M c s = (q_isA (q_gv L 1) ∧ mr81 S P 24 L (q_gv L 1 :: st) sh M c s) := (propext (mv_R_iff (i := .aload_n 1) (len := 1) (ax := []) (by decide +kernel))).trans (q_ldA_eq (K := fun st => mr81 S P 24 L st sh M c s))
theorem e81_24 : mr81 S P 24 L st sh M c s = (q_isI (q_gv L 2) ∧ mr81 S P 25 L (q_gv L 2 :: st) sh M c s) := (propext (mv_R_iff (i := .iload_n 2) (len := 1) (ax := []) (by decide +kernel))).trans (q_ldI_eq (K := fun st => mr81 S P 25 L st sh M c s))
theorem e81_25 : mr81 S P 25 L st sh M c s = (mr81 S P 26 L (.int (nI 0) :: st) sh M c s) := propext (mv_R_iff (i := .iconst 0) (len := 1) (ax := []) (by decide +kernel))
theorem e81_26 {v3 : Value} {v2 : Value} {v1 : Value} : mr81 S P 26 L (v3 :: v2 :: v1 :: st) sh M c s = (mv_ss st ≤ 8 ∧ c ≤ 0 ∧ s ≤ 0 ∧ mv_isO sh (some v1) 1 ∧ mv_kal S 80 [v1, v2, v3] sh M (mr81 S P) 29 L st c s) := (propext (mv_R_iff (i := .invokevirtual 27) (len := 3) (ax := [1, 80, 3, 1, 0, 0, 807, 772, 43, 109, 773]) (by decide +kernel))).trans (q_call1)
theorem e81_29 {x : Int32} {i : Int32} {a : Nat} : mr81 S P 29 L (.int x :: .int i :: .ref a :: st) sh M c s = (mv_kst sh M a i x (mr81 S P) 30 L st c s) := propext (mv_R_iff (i := .iastore) (len := 1) (ax := []) (by decide +kernel))
theorem e81_30 : mr81 S P 30 L st sh M c s = (q_isA (q_gv L 0) ∧ mr81 S P 31 L (q_gv L 0 :: st) sh M c s) := (propext (mv_R_iff (i := .aload_n 0) (len := 1) (ax := []) (by decide +kernel))).trans (q_ldA_eq (K := fun st => mr81 S P 31 L st sh M c s))
theorem e81_31 {a : Nat} : mr81 S P 31 L (.ref a :: st) sh M c s = (mv_kgf sh M a 3 2 (mr81 S P) 34 L st c s) := propext (mv_R_iff (i := .getfield 18) (len := 3) (ax := [256, 0, 3, 2]) (by decide +kernel))
theorem e81_34 : mr81 S P 34 L st sh M c s = (mr81 S P 35 L (.int (nI 2) :: st) sh M c s) := propext (mv_R_iff (i := .iconst 2) (len := 1) (ax := []) (by decide +kernel))
theorem e81_35 : mr81 S P 35 L st sh M c s = (q_isI (q_gv L 2) ∧ mr81 S P 36 L (q_gv L 2 :: st) sh M c s) := (propext (mv_R_iff (i := .iload_n 2) (len := 1) (ax := []) (by decide +kernel))).trans (q_ldI_eq (K := fun st => mr81 S P 36 L st sh M c s))
theorem e81_36 {y : Int32} {x : Int32} : mr81 S P 36 L (.int y :: .int x :: st) sh M c s = (mr81 S P 37 L (.int (x * y) :: st) sh M c s) := propext (mv_R_iff (i := .imul) (len := 1) (ax := []) (by decide +kernel))
theorem e81_37 : mr81 S P 37 L st sh M c s = (mr81 S P 38 L (.int (nI 1) :: st) sh M c s) := propext (mv_R_iff (i := .iconst 1) (len := 1) (ax := []) (by decide +kernel))
theorem e81_38 {y : Int32} {x : Int32} : mr81 S P 38 L (.int y :: .int x :: st) sh M c s = (mr81 S P 39 L (.int (x + y) :: st) sh M c s) := propext (mv_R_iff (i := .iadd) (len := 1) (ax := []) (by decide +kernel))
theorem e81_39 : mr81 S P 39 L st sh M c s = (q_isA (q_gv L 1) ∧ mr81 S P 40 L (q_gv L 1 :: st) sh M c s) := (propext (mv_R_iff (i := .aload_n 1) (len := 1) (ax := []) (by decide +kernel))).trans (q_ldA_eq (K := fun st => mr81 S P 40 L st sh M c s))
theorem e81_40 : mr81 S P 40 L st sh M c s = (q_isI (q_gv L 2) ∧ mr81 S P 41 L (q_gv L 2 :: st) sh M c s) := (propext (mv_R_iff (i := .iload_n 2) (len := 1) (ax := []) (by decide +kernel))).trans (q_ldI_eq (K := fun st => mr81 S P 41 L st sh M c s))
theorem e81_41 : mr81 S P 41 L st sh M c s = (mr81 S P 42 L (.int (nI 1) :: st) sh M c s) := propext (mv_R_iff (i := .iconst 1) (len := 1) (ax := []) (by decide +kernel))
theorem e81_42 {v3 : Value} {v2 : Value} {v1 : Value} : mr81 S P 42 L (v3 :: v2 :: v1 :: st) sh M c s = (mv_ss st ≤ 8 ∧ c ≤ 0 ∧ s ≤ 0 ∧ mv_isO sh (some v1) 1 ∧ mv_kal S 80 [v1, v2, v3] sh M (mr81 S P) 45 L st c s) := (propext (mv_R_iff (i := .invokevirtual 27) (len := 3) (ax := [1, 80, 3, 1, 0, 0, 807, 772, 43, 109, 773]) (by decide +kernel))).trans (q_call1)
theorem e81_45 {x : Int32} {i : Int32} {a : Nat} : mr81 S P 45 L (.int x :: .int i :: .ref a :: st) sh M c s = (mv_kst sh M a i x (mr81 S P) 46 L st c s) := propext (mv_R_iff (i := .iastore) (len := 1) (ax := []) (by decide +kernel))
theorem e81_46 : mr81 S P 46 L st sh M c s = ((q_isI (q_gv L 2) ∧ q_hs L 2) ∧ mr81 S P 49 (L.set 2 (some (q_inc (q_gv L 2) (nI 1)))) st sh M c s) := (propext (mv_R_iff (i := .iinc 2 1) (len := 3) (ax := []) (by decide +kernel))).trans (q_inc_eq (K := fun L => mr81 S P 49 L st sh M c s))
theorem e81_49 : mr81 S P 49 L st sh M c s = (mr81 S P 2 L st sh M c s) := propext (mv_R_iff (i := .goto (-47)) (len := 3) (ax := [2]) (by decide +kernel))
theorem e81_52 : mr81 S P 52 L st sh M c s = (mr81 S P 53 L (.int (nI 2) :: st) sh M c s) := propext (mv_R_iff (i := .iconst 2) (len := 1) (ax := []) (by decide +kernel))
theorem e81_53 : mr81 S P 53 L st sh M c s = (q_isA (q_gv L 1) ∧ mr81 S P 54 L (q_gv L 1 :: st) sh M c s) := (propext (mv_R_iff (i := .aload_n 1) (len := 1) (ax := []) (by decide +kernel))).trans (q_ldA_eq (K := fun st => mr81 S P 54 L st sh M c s))
theorem e81_54 {a : Nat} : mr81 S P 54 L (.ref a :: st) sh M c s = (mv_kgf sh M a 1 1 (mr81 S P) 57 L st c s) := propext (mv_R_iff (i := .getfield 21) (len := 3) (ax := [172, 1, 1, 1]) (by decide +kernel))
theorem e81_57 : mr81 S P 57 L st sh M c s = (mr81 S P 59 L (.int (nI 6) :: st) sh M c s) := propext (mv_R_iff (i := .bipush 6) (len := 2) (ax := []) (by decide +kernel))
theorem e81_59 {y : Int32} {x : Int32} : mr81 S P 59 L (.int y :: .int x :: st) sh M c s = (mv_ss st + 1 + 1 ≤ 8 ∧ mr81 S P 62 L (.int (if y < x then y else x) :: st) sh M c s) := propext (mv_R_iff (i := .invokestatic 31) (len := 3) (ax := [11, 808, 309, 114, 310]) (by decide +kernel))
theorem e81_62 {y : Int32} {x : Int32} : mr81 S P 62 L (.int y :: .int x :: st) sh M c s = (mr81 S P 63 L (.int (x * y) :: st) sh M c s) := propext (mv_R_iff (i := .imul) (len := 1) (ax := []) (by decide +kernel))
theorem e81_63 {x : Int32} : mr81 S P 63 L [.int x] sh M c s = (mv_nr 0 x ∧ P (some (.int x)) sh M) := propext (mv_R_iff (i := .ireturn) (len := 1) (ax := [0]) (by decide +kernel))
-- 82: Search.enlist(II)V
def mk82 : mv_Cd := [
  (0, .iload_n 1, 1, []),
  (1, .ifCond .lt 56, 3, [57]),
  (4, .iload_n 1, 1, []),
  (5, .sipush 4096, 3, []),
  (8, .if_icmp .ge 49, 3, [57]),
  (11, .aload_n 0, 1, []),
  (12, .getfield 15, 3, [255, 0, 3, 1]),
  (15, .iload_n 1, 1, []),
  (16, .iaload, 1, []),
  (17, .ifCond .ne 40, 3, [57]),
  (20, .aload_n 0, 1, []),
  (21, .getfield 44, 3, [257, 0, 3, 3]),
  (24, .sipush 4096, 3, []),
  (27, .if_icmp .ge 30, 3, [57]),
  (30, .aload_n 0, 1, []),
  (31, .getfield 15, 3, [255, 0, 3, 1]),
  (34, .iload_n 1, 1, []),
  (35, .iload_n 2, 1, []),
  (36, .iastore, 1, []),
  (37, .aload_n 0, 1, []),
  (38, .getfield 9, 3, [254, 0, 3, 0]),
  (41, .aload_n 0, 1, []),
  (42, .getfield 44, 3, [257, 0, 3, 3]),
  (45, .iload_n 1, 1, []),
  (46, .iastore, 1, []),
  (47, .aload_n 0, 1, []),
  (48, .dup, 1, []),
  (49, .getfield 44, 3, [257, 0, 3, 3]),
  (52, .iconst 1, 1, []),
  (53, .iadd, 1, []),
  (54, .putfield 44, 3, [257, 0, 3, 3, 0]),
  (57, .return_, 1, [])]
def mr82 (S : Nat → mv_Sp) (P : mv_Post) : mv_Kt := mv_R mv_DF mk82 S (0, 0) P
theorem e82_0 : mr82 S P 0 L st sh M c s = (q_isI (q_gv L 1) ∧ mr82 S P 1 L (q_gv L 1 :: st) sh M c s) := (propext (mv_R_iff (i := .iload_n 1) (len := 1) (ax := []) (by decide +kernel))).trans (q_ldI_eq (K := fun st => mr82 S P 1 L st sh M c s))
theorem e82_1 {x : Int32} : mr82 S P 1 L (.int x :: st) sh M c s = (if x < nI 0 then mr82 S P 57 L st sh M c s else mr82 S P 4 L st sh M c s) := (propext (mv_R_iff (i := .ifCond .lt 56) (len := 3) (ax := [57]) (by decide +kernel))).trans (q_br)
theorem e82_4 : mr82 S P 4 L st sh M c s = (q_isI (q_gv L 1) ∧ mr82 S P 5 L (q_gv L 1 :: st) sh M c s) := (propext (mv_R_iff (i := .iload_n 1) (len := 1) (ax := []) (by decide +kernel))).trans (q_ldI_eq (K := fun st => mr82 S P 5 L st sh M c s))
theorem e82_5 : mr82 S P 5 L st sh M c s = (mr82 S P 8 L (.int (nI 4096) :: st) sh M c s) := propext (mv_R_iff (i := .sipush 4096) (len := 3) (ax := []) (by decide +kernel))
theorem e82_8 {y : Int32} {x : Int32} : mr82 S P 8 L (.int y :: .int x :: st) sh M c s = (if y ≤ x then mr82 S P 57 L st sh M c s else mr82 S P 11 L st sh M c s) := (propext (mv_R_iff (i := .if_icmp .ge 49) (len := 3) (ax := [57]) (by decide +kernel))).trans (q_br)
theorem e82_11 : mr82 S P 11 L st sh M c s = (q_isA (q_gv L 0) ∧ mr82 S P 12 L (q_gv L 0 :: st) sh M c s) := (propext (mv_R_iff (i := .aload_n 0) (len := 1) (ax := []) (by decide +kernel))).trans (q_ldA_eq (K := fun st => mr82 S P 12 L st sh M c s))
theorem e82_12 {a : Nat} : mr82 S P 12 L (.ref a :: st) sh M c s = (mv_kgf sh M a 3 1 (mr82 S P) 15 L st c s) := propext (mv_R_iff (i := .getfield 15) (len := 3) (ax := [255, 0, 3, 1]) (by decide +kernel))
theorem e82_15 : mr82 S P 15 L st sh M c s = (q_isI (q_gv L 1) ∧ mr82 S P 16 L (q_gv L 1 :: st) sh M c s) := (propext (mv_R_iff (i := .iload_n 1) (len := 1) (ax := []) (by decide +kernel))).trans (q_ldI_eq (K := fun st => mr82 S P 16 L st sh M c s))
theorem e82_16 {i : Int32} {a : Nat} : mr82 S P 16 L (.int i :: .ref a :: st) sh M c s = (mv_kld sh M a i (mr82 S P) 17 L st c s) := propext (mv_R_iff (i := .iaload) (len := 1) (ax := []) (by decide +kernel))
theorem e82_17 {x : Int32} : mr82 S P 17 L (.int x :: st) sh M c s = (if x = nI 0 then mr82 S P 20 L st sh M c s else mr82 S P 57 L st sh M c s) := (propext (mv_R_iff (i := .ifCond .ne 40) (len := 3) (ax := [57]) (by decide +kernel))).trans (q_br')
theorem e82_20 : mr82 S P 20 L st sh M c s = (q_isA (q_gv L 0) ∧ mr82 S P 21 L (q_gv L 0 :: st) sh M c s) := (propext (mv_R_iff (i := .aload_n 0) (len := 1) (ax := []) (by decide +kernel))).trans (q_ldA_eq (K := fun st => mr82 S P 21 L st sh M c s))
theorem e82_21 {a : Nat} : mr82 S P 21 L (.ref a :: st) sh M c s = (mv_kgf sh M a 3 3 (mr82 S P) 24 L st c s) := propext (mv_R_iff (i := .getfield 44) (len := 3) (ax := [257, 0, 3, 3]) (by decide +kernel))
theorem e82_24 : mr82 S P 24 L st sh M c s = (mr82 S P 27 L (.int (nI 4096) :: st) sh M c s) := propext (mv_R_iff (i := .sipush 4096) (len := 3) (ax := []) (by decide +kernel))
theorem e82_27 {y : Int32} {x : Int32} : mr82 S P 27 L (.int y :: .int x :: st) sh M c s = (if y ≤ x then mr82 S P 57 L st sh M c s else mr82 S P 30 L st sh M c s) := (propext (mv_R_iff (i := .if_icmp .ge 30) (len := 3) (ax := [57]) (by decide +kernel))).trans (q_br)
theorem e82_30 : mr82 S P 30 L st sh M c s = (q_isA (q_gv L 0) ∧ mr82 S P 31 L (q_gv L 0 :: st) sh M c s) := (propext (mv_R_iff (i := .aload_n 0) (len := 1) (ax := []) (by decide +kernel))).trans (q_ldA_eq (K := fun st => mr82 S P 31 L st sh M c s))
theorem e82_31 {a : Nat} : mr82 S P 31 L (.ref a :: st) sh M c s = (mv_kgf sh M a 3 1 (mr82 S P) 34 L st c s) := propext (mv_R_iff (i := .getfield 15) (len := 3) (ax := [255, 0, 3, 1]) (by decide +kernel))
theorem e82_34 : mr82 S P 34 L st sh M c s = (q_isI (q_gv L 1) ∧ mr82 S P 35 L (q_gv L 1 :: st) sh M c s) := (propext (mv_R_iff (i := .iload_n 1) (len := 1) (ax := []) (by decide +kernel))).trans (q_ldI_eq (K := fun st => mr82 S P 35 L st sh M c s))
theorem e82_35 : mr82 S P 35 L st sh M c s = (q_isI (q_gv L 2) ∧ mr82 S P 36 L (q_gv L 2 :: st) sh M c s) := (propext (mv_R_iff (i := .iload_n 2) (len := 1) (ax := []) (by decide +kernel))).trans (q_ldI_eq (K := fun st => mr82 S P 36 L st sh M c s))
theorem e82_36 {x : Int32} {i : Int32} {a : Nat} : mr82 S P 36 L (.int x :: .int i :: .ref a :: st) sh M c s = (mv_kst sh M a i x (mr82 S P) 37 L st c s) := propext (mv_R_iff (i := .iastore) (len := 1) (ax := []) (by decide +kernel))
theorem e82_37 : mr82 S P 37 L st sh M c s = (q_isA (q_gv L 0) ∧ mr82 S P 38 L (q_gv L 0 :: st) sh M c s) := (propext (mv_R_iff (i := .aload_n 0) (len := 1) (ax := []) (by decide +kernel))).trans (q_ldA_eq (K := fun st => mr82 S P 38 L st sh M c s))
theorem e82_38 {a : Nat} : mr82 S P 38 L (.ref a :: st) sh M c s = (mv_kgf sh M a 3 0 (mr82 S P) 41 L st c s) := propext (mv_R_iff (i := .getfield 9) (len := 3) (ax := [254, 0, 3, 0]) (by decide +kernel))
theorem e82_41 : mr82 S P 41 L st sh M c s = (q_isA (q_gv L 0) ∧ mr82 S P 42 L (q_gv L 0 :: st) sh M c s) := (propext (mv_R_iff (i := .aload_n 0) (len := 1) (ax := []) (by decide +kernel))).trans (q_ldA_eq (K := fun st => mr82 S P 42 L st sh M c s))
theorem e82_42 {a : Nat} : mr82 S P 42 L (.ref a :: st) sh M c s = (mv_kgf sh M a 3 3 (mr82 S P) 45 L st c s) := propext (mv_R_iff (i := .getfield 44) (len := 3) (ax := [257, 0, 3, 3]) (by decide +kernel))
theorem e82_45 : mr82 S P 45 L st sh M c s = (q_isI (q_gv L 1) ∧ mr82 S P 46 L (q_gv L 1 :: st) sh M c s) := (propext (mv_R_iff (i := .iload_n 1) (len := 1) (ax := []) (by decide +kernel))).trans (q_ldI_eq (K := fun st => mr82 S P 46 L st sh M c s))
theorem e82_46 {x : Int32} {i : Int32} {a : Nat} : mr82 S P 46 L (.int x :: .int i :: .ref a :: st) sh M c s = (mv_kst sh M a i x (mr82 S P) 47 L st c s) := propext (mv_R_iff (i := .iastore) (len := 1) (ax := []) (by decide +kernel))
theorem e82_47 : mr82 S P 47 L st sh M c s = (q_isA (q_gv L 0) ∧ mr82 S P 48 L (q_gv L 0 :: st) sh M c s) := (propext (mv_R_iff (i := .aload_n 0) (len := 1) (ax := []) (by decide +kernel))).trans (q_ldA_eq (K := fun st => mr82 S P 48 L st sh M c s))
theorem e82_48 {x : Int32} : mr82 S P 48 L (.int x :: st) sh M c s = (mr82 S P 49 L (.int x :: .int x :: st) sh M c s) := propext (mv_R_iff (i := .dup) (len := 1) (ax := []) (by decide +kernel))
theorem e82_48r {x : Nat} : mr82 S P 48 L (.ref x :: st) sh M c s = (mr82 S P 49 L (.ref x :: .ref x :: st) sh M c s) := propext (mv_R_iff (i := .dup) (len := 1) (ax := []) (by decide +kernel))
theorem e82_49 {a : Nat} : mr82 S P 49 L (.ref a :: st) sh M c s = (mv_kgf sh M a 3 3 (mr82 S P) 52 L st c s) := propext (mv_R_iff (i := .getfield 44) (len := 3) (ax := [257, 0, 3, 3]) (by decide +kernel))
theorem e82_52 : mr82 S P 52 L st sh M c s = (mr82 S P 53 L (.int (nI 1) :: st) sh M c s) := propext (mv_R_iff (i := .iconst 1) (len := 1) (ax := []) (by decide +kernel))
theorem e82_53 {y : Int32} {x : Int32} : mr82 S P 53 L (.int y :: .int x :: st) sh M c s = (mr82 S P 54 L (.int (x + y) :: st) sh M c s) := propext (mv_R_iff (i := .iadd) (len := 1) (ax := []) (by decide +kernel))
theorem e82_54 {x : Int32} {a : Nat} : mr82 S P 54 L (.int x :: .ref a :: st) sh M c s = (True ∧ mv_kpf sh M a 3 3 x (mr82 S P) 57 L st c s) := propext (mv_R_iff (i := .putfield 44) (len := 3) (ax := [257, 0, 3, 3, 0]) (by decide +kernel))
theorem e82_57 : mr82 S P 57 L [] sh M c s = (P none sh M) := propext (mv_R_iff (i := .return_) (len := 1) (ax := []) (by decide +kernel))
-- 84: Search.onBy(II)I
def mk84 : mv_Cd := [
  (0, .iload_n 2, 1, []),
  (1, .ifCond .lt 22, 3, [23]),
  (4, .iload_n 2, 1, []),
  (5, .bipush 12, 2, []),
  (7, .if_icmp .ge 16, 3, [23]),
  (10, .iload_n 1, 1, []),
  (11, .aload_n 0, 1, []),
  (12, .getfield 18, 3, [256, 0, 3, 2]),
  (15, .iload_n 2, 1, []),
  (16, .iaload, 1, []),
  (17, .invokestatic 57, 3, [4, 51, 2, 0, 0, 0, 826, 778, 104, 779]),
  (20, .goto 4, 3, [24]),
  (23, .iload_n 1, 1, []),
  (24, .ireturn, 1, [0])]
def mr84 (S : Nat → mv_Sp) (P : mv_Post) : mv_Kt := mv_R mv_DF mk84 S (0, 0) P
theorem e84_0 : mr84 S P 0 L st sh M c s = (q_isI (q_gv L 2) ∧ mr84 S P 1 L (q_gv L 2 :: st) sh M c s) := (propext (mv_R_iff (i := .iload_n 2) (len := 1) (ax := []) (by decide +kernel))).trans (q_ldI_eq (K := fun st => mr84 S P 1 L st sh M c s))
theorem e84_1 {x : Int32} : mr84 S P 1 L (.int x :: st) sh M c s = (if x < nI 0 then mr84 S P 23 L st sh M c s else mr84 S P 4 L st sh M c s) := (propext (mv_R_iff (i := .ifCond .lt 22) (len := 3) (ax := [23]) (by decide +kernel))).trans (q_br)
theorem e84_4 : mr84 S P 4 L st sh M c s = (q_isI (q_gv L 2) ∧ mr84 S P 5 L (q_gv L 2 :: st) sh M c s) := (propext (mv_R_iff (i := .iload_n 2) (len := 1) (ax := []) (by decide +kernel))).trans (q_ldI_eq (K := fun st => mr84 S P 5 L st sh M c s))
theorem e84_5 : mr84 S P 5 L st sh M c s = (mr84 S P 7 L (.int (nI 12) :: st) sh M c s) := propext (mv_R_iff (i := .bipush 12) (len := 2) (ax := []) (by decide +kernel))
theorem e84_7 {y : Int32} {x : Int32} : mr84 S P 7 L (.int y :: .int x :: st) sh M c s = (if y ≤ x then mr84 S P 23 L st sh M c s else mr84 S P 10 L st sh M c s) := (propext (mv_R_iff (i := .if_icmp .ge 16) (len := 3) (ax := [23]) (by decide +kernel))).trans (q_br)
theorem e84_10 : mr84 S P 10 L st sh M c s = (q_isI (q_gv L 1) ∧ mr84 S P 11 L (q_gv L 1 :: st) sh M c s) := (propext (mv_R_iff (i := .iload_n 1) (len := 1) (ax := []) (by decide +kernel))).trans (q_ldI_eq (K := fun st => mr84 S P 11 L st sh M c s))
theorem e84_11 : mr84 S P 11 L st sh M c s = (q_isA (q_gv L 0) ∧ mr84 S P 12 L (q_gv L 0 :: st) sh M c s) := (propext (mv_R_iff (i := .aload_n 0) (len := 1) (ax := []) (by decide +kernel))).trans (q_ldA_eq (K := fun st => mr84 S P 12 L st sh M c s))
theorem e84_12 {a : Nat} : mr84 S P 12 L (.ref a :: st) sh M c s = (mv_kgf sh M a 3 2 (mr84 S P) 15 L st c s) := propext (mv_R_iff (i := .getfield 18) (len := 3) (ax := [256, 0, 3, 2]) (by decide +kernel))
theorem e84_15 : mr84 S P 15 L st sh M c s = (q_isI (q_gv L 2) ∧ mr84 S P 16 L (q_gv L 2 :: st) sh M c s) := (propext (mv_R_iff (i := .iload_n 2) (len := 1) (ax := []) (by decide +kernel))).trans (q_ldI_eq (K := fun st => mr84 S P 16 L st sh M c s))
theorem e84_16 {i : Int32} {a : Nat} : mr84 S P 16 L (.int i :: .ref a :: st) sh M c s = (mv_kld sh M a i (mr84 S P) 17 L st c s) := propext (mv_R_iff (i := .iaload) (len := 1) (ax := []) (by decide +kernel))
theorem e84_17 {v2 : Value} {v1 : Value} : mr84 S P 17 L (v2 :: v1 :: st) sh M c s = (mv_ss st ≤ 8 ∧ c ≤ 0 ∧ s ≤ 0 ∧ True ∧ mv_kal S 51 [v1, v2] sh M (mr84 S P) 20 L st c s) := (propext (mv_R_iff (i := .invokestatic 57) (len := 3) (ax := [4, 51, 2, 0, 0, 0, 826, 778, 104, 779]) (by decide +kernel))).trans (q_call4)
theorem e84_20 : mr84 S P 20 L st sh M c s = (mr84 S P 24 L st sh M c s) := propext (mv_R_iff (i := .goto 4) (len := 3) (ax := [24]) (by decide +kernel))
theorem e84_23 : mr84 S P 23 L st sh M c s = (q_isI (q_gv L 1) ∧ mr84 S P 24 L (q_gv L 1 :: st) sh M c s) := (propext (mv_R_iff (i := .iload_n 1) (len := 1) (ax := []) (by decide +kernel))).trans (q_ldI_eq (K := fun st => mr84 S P 24 L st sh M c s))
theorem e84_24 {x : Int32} : mr84 S P 24 L [.int x] sh M c s = (mv_nr 0 x ∧ P (some (.int x)) sh M) := propext (mv_R_iff (i := .ireturn) (len := 1) (ax := [0]) (by decide +kernel))
-- 85: Search.markOf(I)I
def mk85 : mv_Cd := [
  (0, .iload_n 1, 1, []),
  (1, .ifCond .lt 19, 3, [20]),
  (4, .iload_n 1, 1, []),
  (5, .sipush 4096, 3, []),
  (8, .if_icmp .ge 12, 3, [20]),
  (11, .aload_n 0, 1, []),
  (12, .getfield 15, 3, [255, 0, 3, 1]),
  (15, .iload_n 1, 1, []),
  (16, .iaload, 1, []),
  (17, .goto 4, 3, [21]),
  (20, .iconst (-1), 1, []),
  (21, .ireturn, 1, [0])]
def mr85 (S : Nat → mv_Sp) (P : mv_Post) : mv_Kt := mv_R mv_DF mk85 S (0, 0) P
theorem e85_0 : mr85 S P 0 L st sh M c s = (q_isI (q_gv L 1) ∧ mr85 S P 1 L (q_gv L 1 :: st) sh M c s) := (propext (mv_R_iff (i := .iload_n 1) (len := 1) (ax := []) (by decide +kernel))).trans (q_ldI_eq (K := fun st => mr85 S P 1 L st sh M c s))
theorem e85_1 {x : Int32} : mr85 S P 1 L (.int x :: st) sh M c s = (if x < nI 0 then mr85 S P 20 L st sh M c s else mr85 S P 4 L st sh M c s) := (propext (mv_R_iff (i := .ifCond .lt 19) (len := 3) (ax := [20]) (by decide +kernel))).trans (q_br)
theorem e85_4 : mr85 S P 4 L st sh M c s = (q_isI (q_gv L 1) ∧ mr85 S P 5 L (q_gv L 1 :: st) sh M c s) := (propext (mv_R_iff (i := .iload_n 1) (len := 1) (ax := []) (by decide +kernel))).trans (q_ldI_eq (K := fun st => mr85 S P 5 L st sh M c s))
theorem e85_5 : mr85 S P 5 L st sh M c s = (mr85 S P 8 L (.int (nI 4096) :: st) sh M c s) := propext (mv_R_iff (i := .sipush 4096) (len := 3) (ax := []) (by decide +kernel))
theorem e85_8 {y : Int32} {x : Int32} : mr85 S P 8 L (.int y :: .int x :: st) sh M c s = (if y ≤ x then mr85 S P 20 L st sh M c s else mr85 S P 11 L st sh M c s) := (propext (mv_R_iff (i := .if_icmp .ge 12) (len := 3) (ax := [20]) (by decide +kernel))).trans (q_br)
theorem e85_11 : mr85 S P 11 L st sh M c s = (q_isA (q_gv L 0) ∧ mr85 S P 12 L (q_gv L 0 :: st) sh M c s) := (propext (mv_R_iff (i := .aload_n 0) (len := 1) (ax := []) (by decide +kernel))).trans (q_ldA_eq (K := fun st => mr85 S P 12 L st sh M c s))
theorem e85_12 {a : Nat} : mr85 S P 12 L (.ref a :: st) sh M c s = (mv_kgf sh M a 3 1 (mr85 S P) 15 L st c s) := propext (mv_R_iff (i := .getfield 15) (len := 3) (ax := [255, 0, 3, 1]) (by decide +kernel))
theorem e85_15 : mr85 S P 15 L st sh M c s = (q_isI (q_gv L 1) ∧ mr85 S P 16 L (q_gv L 1 :: st) sh M c s) := (propext (mv_R_iff (i := .iload_n 1) (len := 1) (ax := []) (by decide +kernel))).trans (q_ldI_eq (K := fun st => mr85 S P 16 L st sh M c s))
theorem e85_16 {i : Int32} {a : Nat} : mr85 S P 16 L (.int i :: .ref a :: st) sh M c s = (mv_kld sh M a i (mr85 S P) 17 L st c s) := propext (mv_R_iff (i := .iaload) (len := 1) (ax := []) (by decide +kernel))
theorem e85_17 : mr85 S P 17 L st sh M c s = (mr85 S P 21 L st sh M c s) := propext (mv_R_iff (i := .goto 4) (len := 3) (ax := [21]) (by decide +kernel))
theorem e85_20 : mr85 S P 20 L st sh M c s = (mr85 S P 21 L (.int (Int32.ofInt (-1)) :: st) sh M c s) := propext (mv_R_iff (i := .iconst (-1)) (len := 1) (ax := []) (by decide +kernel))
theorem e85_21 {x : Int32} : mr85 S P 21 L [.int x] sh M c s = (mv_nr 0 x ∧ P (some (.int x)) sh M) := propext (mv_R_iff (i := .ireturn) (len := 1) (ax := [0]) (by decide +kernel))
-- 88: Loom.firstAlikeOf(I)I
def mk88 : mv_Cd := [
  (0, .iconst 0, 1, []),
  (1, .istore_n 2, 1, []),
  (2, .iconst 0, 1, []),
  (3, .istore_n 3, 1, []),
  (4, .iload_n 3, 1, []),
  (5, .aload_n 0, 1, []),
  (6, .getfield 30, 3, [167, 0, 1, 0]),
  (9, .if_icmp .ge 38, 3, [47]),
  (12, .iload_n 3, 1, []),
  (13, .bipush 6, 2, []),
  (15, .if_icmp .ge 32, 3, [47]),
  (18, .iload_n 2, 1, []),
  (19, .iload_n 3, 1, []),
  (20, .aload_n 0, 1, []),
  (21, .getfield 21, 3, [186, 0, 1, 7]),
  (24, .iload_n 3, 1, []),
  (25, .iconst 4, 1, []),
  (26, .imul, 1, []),
  (27, .iload_n 1, 1, []),
  (28, .iconst 2, 1, []),
  (29, .iload_n 3, 1, []),
  (30, .imul, 1, []),
  (31, .ishr, 1, []),
  (32, .iconst 3, 1, []),
  (33, .iand, 1, []),
  (34, .iadd, 1, []),
  (35, .iaload, 1, []),
  (36, .invokestatic 73, 3, [4, 65, 2, 0, 0, 0, 776, 649, 104, 650]),
  (39, .ior, 1, []),
  (40, .istore_n 2, 1, []),
  (41, .iinc 3 1, 3, []),
  (44, .goto (-40), 3, [4]),
  (47, .iload_n 2, 1, []),
  (48, .ireturn, 1, [0])]
def mr88 (S : Nat → mv_Sp) (P : mv_Post) : mv_Kt := mv_R mv_DF mk88 S (0, 0) P
theorem e88_0 : mr88 S P 0 L st sh M c s = (mr88 S P 1 L (.int (nI 0) :: st) sh M c s) := propext (mv_R_iff (i := .iconst 0) (len := 1) (ax := []) (by decide +kernel))
theorem e88_1 {x : Int32} : mr88 S P 1 L (.int x :: st) sh M c s = (q_hs L 2 ∧ mr88 S P 2 (L.set 2 (some (.int x))) st sh M c s) := (propext (mv_R_iff (i := .istore_n 2) (len := 1) (ax := []) (by decide +kernel))).trans (q_st_eq (K := fun L => mr88 S P 2 L st sh M c s))
theorem e88_2 : mr88 S P 2 L st sh M c s = (mr88 S P 3 L (.int (nI 0) :: st) sh M c s) := propext (mv_R_iff (i := .iconst 0) (len := 1) (ax := []) (by decide +kernel))
theorem e88_3 {x : Int32} : mr88 S P 3 L (.int x :: st) sh M c s = (q_hs L 3 ∧ mr88 S P 4 (L.set 3 (some (.int x))) st sh M c s) := (propext (mv_R_iff (i := .istore_n 3) (len := 1) (ax := []) (by decide +kernel))).trans (q_st_eq (K := fun L => mr88 S P 4 L st sh M c s))
theorem e88_4 : mr88 S P 4 L st sh M c s = (q_isI (q_gv L 3) ∧ mr88 S P 5 L (q_gv L 3 :: st) sh M c s) := (propext (mv_R_iff (i := .iload_n 3) (len := 1) (ax := []) (by decide +kernel))).trans (q_ldI_eq (K := fun st => mr88 S P 5 L st sh M c s))
theorem e88_5 : mr88 S P 5 L st sh M c s = (q_isA (q_gv L 0) ∧ mr88 S P 6 L (q_gv L 0 :: st) sh M c s) := (propext (mv_R_iff (i := .aload_n 0) (len := 1) (ax := []) (by decide +kernel))).trans (q_ldA_eq (K := fun st => mr88 S P 6 L st sh M c s))
theorem e88_6 {a : Nat} : mr88 S P 6 L (.ref a :: st) sh M c s = (mv_kgf sh M a 1 0 (mr88 S P) 9 L st c s) := propext (mv_R_iff (i := .getfield 30) (len := 3) (ax := [167, 0, 1, 0]) (by decide +kernel))
theorem e88_9 {y : Int32} {x : Int32} : mr88 S P 9 L (.int y :: .int x :: st) sh M c s = (if y ≤ x then mr88 S P 47 L st sh M c s else mr88 S P 12 L st sh M c s) := (propext (mv_R_iff (i := .if_icmp .ge 38) (len := 3) (ax := [47]) (by decide +kernel))).trans (q_br)
theorem e88_12 : mr88 S P 12 L st sh M c s = (q_isI (q_gv L 3) ∧ mr88 S P 13 L (q_gv L 3 :: st) sh M c s) := (propext (mv_R_iff (i := .iload_n 3) (len := 1) (ax := []) (by decide +kernel))).trans (q_ldI_eq (K := fun st => mr88 S P 13 L st sh M c s))
theorem e88_13 : mr88 S P 13 L st sh M c s = (mr88 S P 15 L (.int (nI 6) :: st) sh M c s) := propext (mv_R_iff (i := .bipush 6) (len := 2) (ax := []) (by decide +kernel))
theorem e88_15 {y : Int32} {x : Int32} : mr88 S P 15 L (.int y :: .int x :: st) sh M c s = (if y ≤ x then mr88 S P 47 L st sh M c s else mr88 S P 18 L st sh M c s) := (propext (mv_R_iff (i := .if_icmp .ge 32) (len := 3) (ax := [47]) (by decide +kernel))).trans (q_br)
theorem e88_18 : mr88 S P 18 L st sh M c s = (q_isI (q_gv L 2) ∧ mr88 S P 19 L (q_gv L 2 :: st) sh M c s) := (propext (mv_R_iff (i := .iload_n 2) (len := 1) (ax := []) (by decide +kernel))).trans (q_ldI_eq (K := fun st => mr88 S P 19 L st sh M c s))
theorem e88_19 : mr88 S P 19 L st sh M c s = (q_isI (q_gv L 3) ∧ mr88 S P 20 L (q_gv L 3 :: st) sh M c s) := (propext (mv_R_iff (i := .iload_n 3) (len := 1) (ax := []) (by decide +kernel))).trans (q_ldI_eq (K := fun st => mr88 S P 20 L st sh M c s))
theorem e88_20 : mr88 S P 20 L st sh M c s = (q_isA (q_gv L 0) ∧ mr88 S P 21 L (q_gv L 0 :: st) sh M c s) := (propext (mv_R_iff (i := .aload_n 0) (len := 1) (ax := []) (by decide +kernel))).trans (q_ldA_eq (K := fun st => mr88 S P 21 L st sh M c s))
theorem e88_21 {a : Nat} : mr88 S P 21 L (.ref a :: st) sh M c s = (mv_kgf sh M a 1 7 (mr88 S P) 24 L st c s) := propext (mv_R_iff (i := .getfield 21) (len := 3) (ax := [186, 0, 1, 7]) (by decide +kernel))
theorem e88_24 : mr88 S P 24 L st sh M c s = (q_isI (q_gv L 3) ∧ mr88 S P 25 L (q_gv L 3 :: st) sh M c s) := (propext (mv_R_iff (i := .iload_n 3) (len := 1) (ax := []) (by decide +kernel))).trans (q_ldI_eq (K := fun st => mr88 S P 25 L st sh M c s))
theorem e88_25 : mr88 S P 25 L st sh M c s = (mr88 S P 26 L (.int (nI 4) :: st) sh M c s) := propext (mv_R_iff (i := .iconst 4) (len := 1) (ax := []) (by decide +kernel))
theorem e88_26 {y : Int32} {x : Int32} : mr88 S P 26 L (.int y :: .int x :: st) sh M c s = (mr88 S P 27 L (.int (x * y) :: st) sh M c s) := propext (mv_R_iff (i := .imul) (len := 1) (ax := []) (by decide +kernel))
theorem e88_27 : mr88 S P 27 L st sh M c s = (q_isI (q_gv L 1) ∧ mr88 S P 28 L (q_gv L 1 :: st) sh M c s) := (propext (mv_R_iff (i := .iload_n 1) (len := 1) (ax := []) (by decide +kernel))).trans (q_ldI_eq (K := fun st => mr88 S P 28 L st sh M c s))
theorem e88_28 : mr88 S P 28 L st sh M c s = (mr88 S P 29 L (.int (nI 2) :: st) sh M c s) := propext (mv_R_iff (i := .iconst 2) (len := 1) (ax := []) (by decide +kernel))
theorem e88_29 : mr88 S P 29 L st sh M c s = (q_isI (q_gv L 3) ∧ mr88 S P 30 L (q_gv L 3 :: st) sh M c s) := (propext (mv_R_iff (i := .iload_n 3) (len := 1) (ax := []) (by decide +kernel))).trans (q_ldI_eq (K := fun st => mr88 S P 30 L st sh M c s))
theorem e88_30 {y : Int32} {x : Int32} : mr88 S P 30 L (.int y :: .int x :: st) sh M c s = (mr88 S P 31 L (.int (x * y) :: st) sh M c s) := propext (mv_R_iff (i := .imul) (len := 1) (ax := []) (by decide +kernel))
theorem e88_31 {y : Int32} {x : Int32} : mr88 S P 31 L (.int y :: .int x :: st) sh M c s = (mr88 S P 32 L (.int (x >>> (y &&& 31)) :: st) sh M c s) := propext (mv_R_iff (i := .ishr) (len := 1) (ax := []) (by decide +kernel))
theorem e88_32 : mr88 S P 32 L st sh M c s = (mr88 S P 33 L (.int (nI 3) :: st) sh M c s) := propext (mv_R_iff (i := .iconst 3) (len := 1) (ax := []) (by decide +kernel))
theorem e88_33 {y : Int32} {x : Int32} : mr88 S P 33 L (.int y :: .int x :: st) sh M c s = (mr88 S P 34 L (.int (x &&& y) :: st) sh M c s) := propext (mv_R_iff (i := .iand) (len := 1) (ax := []) (by decide +kernel))
theorem e88_34 {y : Int32} {x : Int32} : mr88 S P 34 L (.int y :: .int x :: st) sh M c s = (mr88 S P 35 L (.int (x + y) :: st) sh M c s) := propext (mv_R_iff (i := .iadd) (len := 1) (ax := []) (by decide +kernel))
theorem e88_35 {i : Int32} {a : Nat} : mr88 S P 35 L (.int i :: .ref a :: st) sh M c s = (mv_kld sh M a i (mr88 S P) 36 L st c s) := propext (mv_R_iff (i := .iaload) (len := 1) (ax := []) (by decide +kernel))
theorem e88_36 {v2 : Value} {v1 : Value} : mr88 S P 36 L (v2 :: v1 :: st) sh M c s = (mv_ss st ≤ 8 ∧ c ≤ 0 ∧ s ≤ 0 ∧ True ∧ mv_kal S 65 [v1, v2] sh M (mr88 S P) 39 L st c s) := (propext (mv_R_iff (i := .invokestatic 73) (len := 3) (ax := [4, 65, 2, 0, 0, 0, 776, 649, 104, 650]) (by decide +kernel))).trans (q_call4)
theorem e88_39 {y : Int32} {x : Int32} : mr88 S P 39 L (.int y :: .int x :: st) sh M c s = (mr88 S P 40 L (.int (x ||| y) :: st) sh M c s) := propext (mv_R_iff (i := .ior) (len := 1) (ax := []) (by decide +kernel))
theorem e88_40 {x : Int32} : mr88 S P 40 L (.int x :: st) sh M c s = (q_hs L 2 ∧ mr88 S P 41 (L.set 2 (some (.int x))) st sh M c s) := (propext (mv_R_iff (i := .istore_n 2) (len := 1) (ax := []) (by decide +kernel))).trans (q_st_eq (K := fun L => mr88 S P 41 L st sh M c s))
theorem e88_41 : mr88 S P 41 L st sh M c s = ((q_isI (q_gv L 3) ∧ q_hs L 3) ∧ mr88 S P 44 (L.set 3 (some (q_inc (q_gv L 3) (nI 1)))) st sh M c s) := (propext (mv_R_iff (i := .iinc 3 1) (len := 3) (ax := []) (by decide +kernel))).trans (q_inc_eq (K := fun L => mr88 S P 44 L st sh M c s))
theorem e88_44 : mr88 S P 44 L st sh M c s = (mr88 S P 4 L st sh M c s) := propext (mv_R_iff (i := .goto (-40)) (len := 3) (ax := [4]) (by decide +kernel))
theorem e88_47 : mr88 S P 47 L st sh M c s = (q_isI (q_gv L 2) ∧ mr88 S P 48 L (q_gv L 2 :: st) sh M c s) := (propext (mv_R_iff (i := .iload_n 2) (len := 1) (ax := []) (by decide +kernel))).trans (q_ldI_eq (K := fun st => mr88 S P 48 L st sh M c s))
theorem e88_48 {x : Int32} : mr88 S P 48 L [.int x] sh M c s = (mv_nr 0 x ∧ P (some (.int x)) sh M) := propext (mv_R_iff (i := .ireturn) (len := 1) (ax := [0]) (by decide +kernel))
-- 91: TurnedTablets.isTablet(I)Z
def mk91 : mv_Cd := [
  (0, .iload_n 1, 1, []),
  (1, .ifCond .lt 18, 3, [19]),
  (4, .iload_n 1, 1, []),
  (5, .aload_n 0, 1, []),
  (6, .getfield 19, 3, [524, 0, 4, 1]),
  (9, .getfield 86, 3, [168, 1, 1, 0]),
  (12, .if_icmp .ge 7, 3, [19]),
  (15, .iconst 1, 1, []),
  (16, .goto 4, 3, [20]),
  (19, .iconst 0, 1, []),
  (20, .ireturn, 1, [1])]
def mr91 (S : Nat → mv_Sp) (P : mv_Post) : mv_Kt := mv_R mv_DF mk91 S (0, 0) P
theorem e91_0 : mr91 S P 0 L st sh M c s = (q_isI (q_gv L 1) ∧ mr91 S P 1 L (q_gv L 1 :: st) sh M c s) := (propext (mv_R_iff (i := .iload_n 1) (len := 1) (ax := []) (by decide +kernel))).trans (q_ldI_eq (K := fun st => mr91 S P 1 L st sh M c s))
theorem e91_1 {x : Int32} : mr91 S P 1 L (.int x :: st) sh M c s = (if x < nI 0 then mr91 S P 19 L st sh M c s else mr91 S P 4 L st sh M c s) := (propext (mv_R_iff (i := .ifCond .lt 18) (len := 3) (ax := [19]) (by decide +kernel))).trans (q_br)
theorem e91_4 : mr91 S P 4 L st sh M c s = (q_isI (q_gv L 1) ∧ mr91 S P 5 L (q_gv L 1 :: st) sh M c s) := (propext (mv_R_iff (i := .iload_n 1) (len := 1) (ax := []) (by decide +kernel))).trans (q_ldI_eq (K := fun st => mr91 S P 5 L st sh M c s))
theorem e91_5 : mr91 S P 5 L st sh M c s = (q_isA (q_gv L 0) ∧ mr91 S P 6 L (q_gv L 0 :: st) sh M c s) := (propext (mv_R_iff (i := .aload_n 0) (len := 1) (ax := []) (by decide +kernel))).trans (q_ldA_eq (K := fun st => mr91 S P 6 L st sh M c s))
theorem e91_6 {a : Nat} : mr91 S P 6 L (.ref a :: st) sh M c s = (mv_kgf sh M a 4 1 (mr91 S P) 9 L st c s) := propext (mv_R_iff (i := .getfield 19) (len := 3) (ax := [524, 0, 4, 1]) (by decide +kernel))
theorem e91_9 {a : Nat} : mr91 S P 9 L (.ref a :: st) sh M c s = (mv_kgf sh M a 1 0 (mr91 S P) 12 L st c s) := propext (mv_R_iff (i := .getfield 86) (len := 3) (ax := [168, 1, 1, 0]) (by decide +kernel))
theorem e91_12 {y : Int32} {x : Int32} : mr91 S P 12 L (.int y :: .int x :: st) sh M c s = (if y ≤ x then mr91 S P 19 L st sh M c s else mr91 S P 15 L st sh M c s) := (propext (mv_R_iff (i := .if_icmp .ge 7) (len := 3) (ax := [19]) (by decide +kernel))).trans (q_br)
theorem e91_15 : mr91 S P 15 L st sh M c s = (mr91 S P 16 L (.int (nI 1) :: st) sh M c s) := propext (mv_R_iff (i := .iconst 1) (len := 1) (ax := []) (by decide +kernel))
theorem e91_16 : mr91 S P 16 L st sh M c s = (mr91 S P 20 L st sh M c s) := propext (mv_R_iff (i := .goto 4) (len := 3) (ax := [20]) (by decide +kernel))
theorem e91_19 : mr91 S P 19 L st sh M c s = (mr91 S P 20 L (.int (nI 0) :: st) sh M c s) := propext (mv_R_iff (i := .iconst 0) (len := 1) (ax := []) (by decide +kernel))
theorem e91_20 {x : Int32} : mr91 S P 20 L [.int x] sh M c s = (mv_nr 1 x ∧ P (some (.int x)) sh M) := propext (mv_R_iff (i := .ireturn) (len := 1) (ax := [1]) (by decide +kernel))
-- 93: TurnedTablets.commonDivisor(II)I
def mk93 : mv_Cd := [
  (0, .iload_n 0, 1, []),
  (1, .istore_n 2, 1, []),
  (2, .iload_n 1, 1, []),
  (3, .istore_n 3, 1, []),
  (4, .iconst 0, 1, []),
  (5, .istore 4, 2, []),
  (7, .iload 4, 2, []),
  (9, .bipush 100, 2, []),
  (11, .if_icmp .ge 23, 3, [34]),
  (14, .iload_n 3, 1, []),
  (15, .ifCond .le 19, 3, [34]),
  (18, .iload_n 2, 1, []),
  (19, .iload_n 3, 1, []),
  (20, .irem, 1, []),
  (21, .istore 5, 2, []),
  (23, .iload_n 3, 1, []),
  (24, .istore_n 2, 1, []),
  (25, .iload 5, 2, []),
  (27, .istore_n 3, 1, []),
  (28, .iinc 4 1, 3, []),
  (31, .goto (-24), 3, [7]),
  (34, .iload_n 2, 1, []),
  (35, .ireturn, 1, [0])]
def mr93 (S : Nat → mv_Sp) (P : mv_Post) : mv_Kt := mv_R mv_DF mk93 S (0, 0) P
theorem e93_0 : mr93 S P 0 L st sh M c s = (q_isI (q_gv L 0) ∧ mr93 S P 1 L (q_gv L 0 :: st) sh M c s) := (propext (mv_R_iff (i := .iload_n 0) (len := 1) (ax := []) (by decide +kernel))).trans (q_ldI_eq (K := fun st => mr93 S P 1 L st sh M c s))
theorem e93_1 {x : Int32} : mr93 S P 1 L (.int x :: st) sh M c s = (q_hs L 2 ∧ mr93 S P 2 (L.set 2 (some (.int x))) st sh M c s) := (propext (mv_R_iff (i := .istore_n 2) (len := 1) (ax := []) (by decide +kernel))).trans (q_st_eq (K := fun L => mr93 S P 2 L st sh M c s))
theorem e93_2 : mr93 S P 2 L st sh M c s = (q_isI (q_gv L 1) ∧ mr93 S P 3 L (q_gv L 1 :: st) sh M c s) := (propext (mv_R_iff (i := .iload_n 1) (len := 1) (ax := []) (by decide +kernel))).trans (q_ldI_eq (K := fun st => mr93 S P 3 L st sh M c s))
theorem e93_3 {x : Int32} : mr93 S P 3 L (.int x :: st) sh M c s = (q_hs L 3 ∧ mr93 S P 4 (L.set 3 (some (.int x))) st sh M c s) := (propext (mv_R_iff (i := .istore_n 3) (len := 1) (ax := []) (by decide +kernel))).trans (q_st_eq (K := fun L => mr93 S P 4 L st sh M c s))
theorem e93_4 : mr93 S P 4 L st sh M c s = (mr93 S P 5 L (.int (nI 0) :: st) sh M c s) := propext (mv_R_iff (i := .iconst 0) (len := 1) (ax := []) (by decide +kernel))
theorem e93_5 {x : Int32} : mr93 S P 5 L (.int x :: st) sh M c s = (q_hs L 4 ∧ mr93 S P 7 (L.set 4 (some (.int x))) st sh M c s) := (propext (mv_R_iff (i := .istore 4) (len := 2) (ax := []) (by decide +kernel))).trans (q_st_eq (K := fun L => mr93 S P 7 L st sh M c s))
theorem e93_7 : mr93 S P 7 L st sh M c s = (q_isI (q_gv L 4) ∧ mr93 S P 9 L (q_gv L 4 :: st) sh M c s) := (propext (mv_R_iff (i := .iload 4) (len := 2) (ax := []) (by decide +kernel))).trans (q_ldI_eq (K := fun st => mr93 S P 9 L st sh M c s))
theorem e93_9 : mr93 S P 9 L st sh M c s = (mr93 S P 11 L (.int (nI 100) :: st) sh M c s) := propext (mv_R_iff (i := .bipush 100) (len := 2) (ax := []) (by decide +kernel))
theorem e93_11 {y : Int32} {x : Int32} : mr93 S P 11 L (.int y :: .int x :: st) sh M c s = (if y ≤ x then mr93 S P 34 L st sh M c s else mr93 S P 14 L st sh M c s) := (propext (mv_R_iff (i := .if_icmp .ge 23) (len := 3) (ax := [34]) (by decide +kernel))).trans (q_br)
theorem e93_14 : mr93 S P 14 L st sh M c s = (q_isI (q_gv L 3) ∧ mr93 S P 15 L (q_gv L 3 :: st) sh M c s) := (propext (mv_R_iff (i := .iload_n 3) (len := 1) (ax := []) (by decide +kernel))).trans (q_ldI_eq (K := fun st => mr93 S P 15 L st sh M c s))
theorem e93_15 {x : Int32} : mr93 S P 15 L (.int x :: st) sh M c s = (if x ≤ nI 0 then mr93 S P 34 L st sh M c s else mr93 S P 18 L st sh M c s) := (propext (mv_R_iff (i := .ifCond .le 19) (len := 3) (ax := [34]) (by decide +kernel))).trans (q_br)
theorem e93_18 : mr93 S P 18 L st sh M c s = (q_isI (q_gv L 2) ∧ mr93 S P 19 L (q_gv L 2 :: st) sh M c s) := (propext (mv_R_iff (i := .iload_n 2) (len := 1) (ax := []) (by decide +kernel))).trans (q_ldI_eq (K := fun st => mr93 S P 19 L st sh M c s))
theorem e93_19 : mr93 S P 19 L st sh M c s = (q_isI (q_gv L 3) ∧ mr93 S P 20 L (q_gv L 3 :: st) sh M c s) := (propext (mv_R_iff (i := .iload_n 3) (len := 1) (ax := []) (by decide +kernel))).trans (q_ldI_eq (K := fun st => mr93 S P 20 L st sh M c s))
theorem e93_20 {y : Int32} {x : Int32} : mr93 S P 20 L (.int y :: .int x :: st) sh M c s = (¬ y = nI 0 ∧ mr93 S P 21 L (.int (q_rm x y) :: st) sh M c s) := propext (mv_R_iff (i := .irem) (len := 1) (ax := []) (by decide +kernel))
theorem e93_21 {x : Int32} : mr93 S P 21 L (.int x :: st) sh M c s = (q_hs L 5 ∧ mr93 S P 23 (L.set 5 (some (.int x))) st sh M c s) := (propext (mv_R_iff (i := .istore 5) (len := 2) (ax := []) (by decide +kernel))).trans (q_st_eq (K := fun L => mr93 S P 23 L st sh M c s))
theorem e93_23 : mr93 S P 23 L st sh M c s = (q_isI (q_gv L 3) ∧ mr93 S P 24 L (q_gv L 3 :: st) sh M c s) := (propext (mv_R_iff (i := .iload_n 3) (len := 1) (ax := []) (by decide +kernel))).trans (q_ldI_eq (K := fun st => mr93 S P 24 L st sh M c s))
theorem e93_24 {x : Int32} : mr93 S P 24 L (.int x :: st) sh M c s = (q_hs L 2 ∧ mr93 S P 25 (L.set 2 (some (.int x))) st sh M c s) := (propext (mv_R_iff (i := .istore_n 2) (len := 1) (ax := []) (by decide +kernel))).trans (q_st_eq (K := fun L => mr93 S P 25 L st sh M c s))
theorem e93_25 : mr93 S P 25 L st sh M c s = (q_isI (q_gv L 5) ∧ mr93 S P 27 L (q_gv L 5 :: st) sh M c s) := (propext (mv_R_iff (i := .iload 5) (len := 2) (ax := []) (by decide +kernel))).trans (q_ldI_eq (K := fun st => mr93 S P 27 L st sh M c s))
theorem e93_27 {x : Int32} : mr93 S P 27 L (.int x :: st) sh M c s = (q_hs L 3 ∧ mr93 S P 28 (L.set 3 (some (.int x))) st sh M c s) := (propext (mv_R_iff (i := .istore_n 3) (len := 1) (ax := []) (by decide +kernel))).trans (q_st_eq (K := fun L => mr93 S P 28 L st sh M c s))
theorem e93_28 : mr93 S P 28 L st sh M c s = ((q_isI (q_gv L 4) ∧ q_hs L 4) ∧ mr93 S P 31 (L.set 4 (some (q_inc (q_gv L 4) (nI 1)))) st sh M c s) := (propext (mv_R_iff (i := .iinc 4 1) (len := 3) (ax := []) (by decide +kernel))).trans (q_inc_eq (K := fun L => mr93 S P 31 L st sh M c s))
theorem e93_31 : mr93 S P 31 L st sh M c s = (mr93 S P 7 L st sh M c s) := propext (mv_R_iff (i := .goto (-24)) (len := 3) (ax := [7]) (by decide +kernel))
theorem e93_34 : mr93 S P 34 L st sh M c s = (q_isI (q_gv L 2) ∧ mr93 S P 35 L (q_gv L 2 :: st) sh M c s) := (propext (mv_R_iff (i := .iload_n 2) (len := 1) (ax := []) (by decide +kernel))).trans (q_ldI_eq (K := fun st => mr93 S P 35 L st sh M c s))
theorem e93_35 {x : Int32} : mr93 S P 35 L [.int x] sh M c s = (mv_nr 0 x ∧ P (some (.int x)) sh M) := propext (mv_R_iff (i := .ireturn) (len := 1) (ax := [0]) (by decide +kernel))
-- 97: TurnedTablets.draft(I)I
def mk97 : mv_Cd := [
  (0, .iload_n 1, 1, []),
  (1, .ifCond .ge 5, 3, [6]),
  (4, .iconst (-1), 1, []),
  (5, .ireturn, 1, [0]),
  (6, .iload_n 1, 1, []),
  (7, .aload_n 0, 1, []),
  (8, .getfield 19, 3, [524, 0, 4, 1]),
  (11, .getfield 133, 3, [178, 1, 1, 2]),
  (14, .if_icmp .ge 14, 3, [28]),
  (17, .aload_n 0, 1, []),
  (18, .getfield 19, 3, [524, 0, 4, 1]),
  (21, .iload_n 1, 1, []),
  (22, .invokevirtual 136, 3, [1, 54, 2, 1, 0, 0, 636, 638, 26, 109, 639]),
  (25, .goto 5, 3, [30]),
  (28, .bipush (-4), 2, []),
  (30, .ireturn, 1, [0])]
def mr97 (S : Nat → mv_Sp) (P : mv_Post) : mv_Kt := mv_R mv_DF mk97 S (0, 0) P
theorem e97_0 : mr97 S P 0 L st sh M c s = (q_isI (q_gv L 1) ∧ mr97 S P 1 L (q_gv L 1 :: st) sh M c s) := (propext (mv_R_iff (i := .iload_n 1) (len := 1) (ax := []) (by decide +kernel))).trans (q_ldI_eq (K := fun st => mr97 S P 1 L st sh M c s))
theorem e97_1 {x : Int32} : mr97 S P 1 L (.int x :: st) sh M c s = (if nI 0 ≤ x then mr97 S P 6 L st sh M c s else mr97 S P 4 L st sh M c s) := (propext (mv_R_iff (i := .ifCond .ge 5) (len := 3) (ax := [6]) (by decide +kernel))).trans (q_br)
theorem e97_4 : mr97 S P 4 L st sh M c s = (mr97 S P 5 L (.int (Int32.ofInt (-1)) :: st) sh M c s) := propext (mv_R_iff (i := .iconst (-1)) (len := 1) (ax := []) (by decide +kernel))
theorem e97_5 {x : Int32} : mr97 S P 5 L [.int x] sh M c s = (mv_nr 0 x ∧ P (some (.int x)) sh M) := propext (mv_R_iff (i := .ireturn) (len := 1) (ax := [0]) (by decide +kernel))
theorem e97_6 : mr97 S P 6 L st sh M c s = (q_isI (q_gv L 1) ∧ mr97 S P 7 L (q_gv L 1 :: st) sh M c s) := (propext (mv_R_iff (i := .iload_n 1) (len := 1) (ax := []) (by decide +kernel))).trans (q_ldI_eq (K := fun st => mr97 S P 7 L st sh M c s))
theorem e97_7 : mr97 S P 7 L st sh M c s = (q_isA (q_gv L 0) ∧ mr97 S P 8 L (q_gv L 0 :: st) sh M c s) := (propext (mv_R_iff (i := .aload_n 0) (len := 1) (ax := []) (by decide +kernel))).trans (q_ldA_eq (K := fun st => mr97 S P 8 L st sh M c s))
theorem e97_8 {a : Nat} : mr97 S P 8 L (.ref a :: st) sh M c s = (mv_kgf sh M a 4 1 (mr97 S P) 11 L st c s) := propext (mv_R_iff (i := .getfield 19) (len := 3) (ax := [524, 0, 4, 1]) (by decide +kernel))
theorem e97_11 {a : Nat} : mr97 S P 11 L (.ref a :: st) sh M c s = (mv_kgf sh M a 1 2 (mr97 S P) 14 L st c s) := propext (mv_R_iff (i := .getfield 133) (len := 3) (ax := [178, 1, 1, 2]) (by decide +kernel))
theorem e97_14 {y : Int32} {x : Int32} : mr97 S P 14 L (.int y :: .int x :: st) sh M c s = (if y ≤ x then mr97 S P 28 L st sh M c s else mr97 S P 17 L st sh M c s) := (propext (mv_R_iff (i := .if_icmp .ge 14) (len := 3) (ax := [28]) (by decide +kernel))).trans (q_br)
theorem e97_17 : mr97 S P 17 L st sh M c s = (q_isA (q_gv L 0) ∧ mr97 S P 18 L (q_gv L 0 :: st) sh M c s) := (propext (mv_R_iff (i := .aload_n 0) (len := 1) (ax := []) (by decide +kernel))).trans (q_ldA_eq (K := fun st => mr97 S P 18 L st sh M c s))
theorem e97_18 {a : Nat} : mr97 S P 18 L (.ref a :: st) sh M c s = (mv_kgf sh M a 4 1 (mr97 S P) 21 L st c s) := propext (mv_R_iff (i := .getfield 19) (len := 3) (ax := [524, 0, 4, 1]) (by decide +kernel))
theorem e97_21 : mr97 S P 21 L st sh M c s = (q_isI (q_gv L 1) ∧ mr97 S P 22 L (q_gv L 1 :: st) sh M c s) := (propext (mv_R_iff (i := .iload_n 1) (len := 1) (ax := []) (by decide +kernel))).trans (q_ldI_eq (K := fun st => mr97 S P 22 L st sh M c s))
theorem e97_22 {v2 : Value} {v1 : Value} : mr97 S P 22 L (v2 :: v1 :: st) sh M c s = (mv_ss st ≤ 8 ∧ c ≤ 0 ∧ s ≤ 0 ∧ mv_isO sh (some v1) 1 ∧ mv_kal S 54 [v1, v2] sh M (mr97 S P) 25 L st c s) := (propext (mv_R_iff (i := .invokevirtual 136) (len := 3) (ax := [1, 54, 2, 1, 0, 0, 636, 638, 26, 109, 639]) (by decide +kernel))).trans (q_call1)
theorem e97_25 : mr97 S P 25 L st sh M c s = (mr97 S P 30 L st sh M c s) := propext (mv_R_iff (i := .goto 5) (len := 3) (ax := [30]) (by decide +kernel))
theorem e97_28 : mr97 S P 28 L st sh M c s = (mr97 S P 30 L (.int (Int32.ofInt (-4)) :: st) sh M c s) := (propext (mv_R_iff (i := .bipush (-4)) (len := 2) (ax := []) (by decide +kernel))).trans (congrArg (fun z => mr97 S P 30 L (.int z :: st) sh M c s) (by decide : (Int8.ofInt (-4)).toInt32 = Int32.ofInt (-4)))
theorem e97_30 {x : Int32} : mr97 S P 30 L [.int x] sh M c s = (mv_nr 0 x ∧ P (some (.int x)) sh M) := propext (mv_R_iff (i := .ireturn) (len := 1) (ax := [0]) (by decide +kernel))
-- 105: TurnedTablets.forget()I
def mk105 : mv_Cd := [
  (0, .aload_n 0, 1, []),
  (1, .getfield 100, 3, [534, 0, 4, 11]),
  (4, .istore_n 1, 1, []),
  (5, .aload_n 0, 1, []),
  (6, .iconst 0, 1, []),
  (7, .putfield 100, 3, [534, 0, 4, 11, 0]),
  (10, .iload_n 1, 1, []),
  (11, .ireturn, 1, [0])]
def mr105 (S : Nat → mv_Sp) (P : mv_Post) : mv_Kt := mv_R mv_DF mk105 S (0, 0) P
theorem e105_0 : mr105 S P 0 L st sh M c s = (q_isA (q_gv L 0) ∧ mr105 S P 1 L (q_gv L 0 :: st) sh M c s) := (propext (mv_R_iff (i := .aload_n 0) (len := 1) (ax := []) (by decide +kernel))).trans (q_ldA_eq (K := fun st => mr105 S P 1 L st sh M c s))
theorem e105_1 {a : Nat} : mr105 S P 1 L (.ref a :: st) sh M c s = (mv_kgf sh M a 4 11 (mr105 S P) 4 L st c s) := propext (mv_R_iff (i := .getfield 100) (len := 3) (ax := [534, 0, 4, 11]) (by decide +kernel))
theorem e105_4 {x : Int32} : mr105 S P 4 L (.int x :: st) sh M c s = (q_hs L 1 ∧ mr105 S P 5 (L.set 1 (some (.int x))) st sh M c s) := (propext (mv_R_iff (i := .istore_n 1) (len := 1) (ax := []) (by decide +kernel))).trans (q_st_eq (K := fun L => mr105 S P 5 L st sh M c s))
theorem e105_5 : mr105 S P 5 L st sh M c s = (q_isA (q_gv L 0) ∧ mr105 S P 6 L (q_gv L 0 :: st) sh M c s) := (propext (mv_R_iff (i := .aload_n 0) (len := 1) (ax := []) (by decide +kernel))).trans (q_ldA_eq (K := fun st => mr105 S P 6 L st sh M c s))
theorem e105_6 : mr105 S P 6 L st sh M c s = (mr105 S P 7 L (.int (nI 0) :: st) sh M c s) := propext (mv_R_iff (i := .iconst 0) (len := 1) (ax := []) (by decide +kernel))
theorem e105_7 {x : Int32} {a : Nat} : mr105 S P 7 L (.int x :: .ref a :: st) sh M c s = (True ∧ mv_kpf sh M a 4 11 x (mr105 S P) 10 L st c s) := propext (mv_R_iff (i := .putfield 100) (len := 3) (ax := [534, 0, 4, 11, 0]) (by decide +kernel))
theorem e105_10 : mr105 S P 10 L st sh M c s = (q_isI (q_gv L 1) ∧ mr105 S P 11 L (q_gv L 1 :: st) sh M c s) := (propext (mv_R_iff (i := .iload_n 1) (len := 1) (ax := []) (by decide +kernel))).trans (q_ldI_eq (K := fun st => mr105 S P 11 L st sh M c s))
theorem e105_11 {x : Int32} : mr105 S P 11 L [.int x] sh M c s = (mv_nr 0 x ∧ P (some (.int x)) sh M) := propext (mv_R_iff (i := .ireturn) (len := 1) (ax := [0]) (by decide +kernel))
-- 106: TurnedTablets.hole(II)I
def mk106 : mv_Cd := [
  (0, .aload_n 0, 1, []),
  (1, .iload_n 1, 1, []),
  (2, .invokevirtual 109, 3, [0, 91, 2, 4, 0, 0, 0, 598, 600, 20, 104, 601]),
  (5, .ifCond .eq 12, 3, [17]),
  (8, .iload_n 2, 1, []),
  (9, .ifCond .lt 8, 3, [17]),
  (12, .iload_n 2, 1, []),
  (13, .iconst 4, 1, []),
  (14, .if_icmp .lt 5, 3, [19]),
  (17, .iconst (-1), 1, []),
  (18, .ireturn, 1, [0]),
  (19, .aload_n 0, 1, []),
  (20, .getfield 19, 3, [524, 0, 4, 1]),
  (23, .iload_n 1, 1, []),
  (24, .iload_n 2, 1, []),
  (25, .invokevirtual 121, 3, [1, 29, 3, 1, 0, 0, 610, 458, 10, 109, 459]),
  (28, .ireturn, 1, [0])]
def mr106 (S : Nat → mv_Sp) (P : mv_Post) : mv_Kt := mv_R mv_DF mk106 S (0, 0) P
theorem e106_0 : mr106 S P 0 L st sh M c s = (q_isA (q_gv L 0) ∧ mr106 S P 1 L (q_gv L 0 :: st) sh M c s) := (propext (mv_R_iff (i := .aload_n 0) (len := 1) (ax := []) (by decide +kernel))).trans (q_ldA_eq (K := fun st => mr106 S P 1 L st sh M c s))
theorem e106_1 : mr106 S P 1 L st sh M c s = (q_isI (q_gv L 1) ∧ mr106 S P 2 L (q_gv L 1 :: st) sh M c s) := (propext (mv_R_iff (i := .iload_n 1) (len := 1) (ax := []) (by decide +kernel))).trans (q_ldI_eq (K := fun st => mr106 S P 2 L st sh M c s))
theorem e106_2 {v2 : Value} {v1 : Value} : mr106 S P 2 L (v2 :: v1 :: st) sh M c s = (mv_ss st ≤ 8 ∧ c ≤ 0 ∧ s ≤ 0 ∧ mv_isO sh (some v1) 4 ∧ mv_kal S 91 [v1, v2] sh M (mr106 S P) 5 L st c s) := (propext (mv_R_iff (i := .invokevirtual 109) (len := 3) (ax := [0, 91, 2, 4, 0, 0, 0, 598, 600, 20, 104, 601]) (by decide +kernel))).trans (q_call0)
theorem e106_5 {x : Int32} : mr106 S P 5 L (.int x :: st) sh M c s = (if x = nI 0 then mr106 S P 17 L st sh M c s else mr106 S P 8 L st sh M c s) := (propext (mv_R_iff (i := .ifCond .eq 12) (len := 3) (ax := [17]) (by decide +kernel))).trans (q_br)
theorem e106_8 : mr106 S P 8 L st sh M c s = (q_isI (q_gv L 2) ∧ mr106 S P 9 L (q_gv L 2 :: st) sh M c s) := (propext (mv_R_iff (i := .iload_n 2) (len := 1) (ax := []) (by decide +kernel))).trans (q_ldI_eq (K := fun st => mr106 S P 9 L st sh M c s))
theorem e106_9 {x : Int32} : mr106 S P 9 L (.int x :: st) sh M c s = (if x < nI 0 then mr106 S P 17 L st sh M c s else mr106 S P 12 L st sh M c s) := (propext (mv_R_iff (i := .ifCond .lt 8) (len := 3) (ax := [17]) (by decide +kernel))).trans (q_br)
theorem e106_12 : mr106 S P 12 L st sh M c s = (q_isI (q_gv L 2) ∧ mr106 S P 13 L (q_gv L 2 :: st) sh M c s) := (propext (mv_R_iff (i := .iload_n 2) (len := 1) (ax := []) (by decide +kernel))).trans (q_ldI_eq (K := fun st => mr106 S P 13 L st sh M c s))
theorem e106_13 : mr106 S P 13 L st sh M c s = (mr106 S P 14 L (.int (nI 4) :: st) sh M c s) := propext (mv_R_iff (i := .iconst 4) (len := 1) (ax := []) (by decide +kernel))
theorem e106_14 {y : Int32} {x : Int32} : mr106 S P 14 L (.int y :: .int x :: st) sh M c s = (if x < y then mr106 S P 19 L st sh M c s else mr106 S P 17 L st sh M c s) := (propext (mv_R_iff (i := .if_icmp .lt 5) (len := 3) (ax := [19]) (by decide +kernel))).trans (q_br)
theorem e106_17 : mr106 S P 17 L st sh M c s = (mr106 S P 18 L (.int (Int32.ofInt (-1)) :: st) sh M c s) := propext (mv_R_iff (i := .iconst (-1)) (len := 1) (ax := []) (by decide +kernel))
theorem e106_18 {x : Int32} : mr106 S P 18 L [.int x] sh M c s = (mv_nr 0 x ∧ P (some (.int x)) sh M) := propext (mv_R_iff (i := .ireturn) (len := 1) (ax := [0]) (by decide +kernel))
theorem e106_19 : mr106 S P 19 L st sh M c s = (q_isA (q_gv L 0) ∧ mr106 S P 20 L (q_gv L 0 :: st) sh M c s) := (propext (mv_R_iff (i := .aload_n 0) (len := 1) (ax := []) (by decide +kernel))).trans (q_ldA_eq (K := fun st => mr106 S P 20 L st sh M c s))
theorem e106_20 {a : Nat} : mr106 S P 20 L (.ref a :: st) sh M c s = (mv_kgf sh M a 4 1 (mr106 S P) 23 L st c s) := propext (mv_R_iff (i := .getfield 19) (len := 3) (ax := [524, 0, 4, 1]) (by decide +kernel))
theorem e106_23 : mr106 S P 23 L st sh M c s = (q_isI (q_gv L 1) ∧ mr106 S P 24 L (q_gv L 1 :: st) sh M c s) := (propext (mv_R_iff (i := .iload_n 1) (len := 1) (ax := []) (by decide +kernel))).trans (q_ldI_eq (K := fun st => mr106 S P 24 L st sh M c s))
theorem e106_24 : mr106 S P 24 L st sh M c s = (q_isI (q_gv L 2) ∧ mr106 S P 25 L (q_gv L 2 :: st) sh M c s) := (propext (mv_R_iff (i := .iload_n 2) (len := 1) (ax := []) (by decide +kernel))).trans (q_ldI_eq (K := fun st => mr106 S P 25 L st sh M c s))
theorem e106_25 {v3 : Value} {v2 : Value} {v1 : Value} : mr106 S P 25 L (v3 :: v2 :: v1 :: st) sh M c s = (mv_ss st ≤ 8 ∧ c ≤ 0 ∧ s ≤ 0 ∧ mv_isO sh (some v1) 1 ∧ mv_kal S 29 [v1, v2, v3] sh M (mr106 S P) 28 L st c s) := (propext (mv_R_iff (i := .invokevirtual 121) (len := 3) (ax := [1, 29, 3, 1, 0, 0, 610, 458, 10, 109, 459]) (by decide +kernel))).trans (q_call1)
theorem e106_28 {x : Int32} : mr106 S P 28 L [.int x] sh M c s = (mv_nr 0 x ∧ P (some (.int x)) sh M) := propext (mv_R_iff (i := .ireturn) (len := 1) (ax := [0]) (by decide +kernel))
-- 107: TurnedTablets.isPack(I)Z
def mk107 : mv_Cd := [
  (0, .iload_n 1, 1, []),
  (1, .ifCond .lt 18, 3, [19]),
  (4, .iload_n 1, 1, []),
  (5, .aload_n 0, 1, []),
  (6, .getfield 19, 3, [524, 0, 4, 1]),
  (9, .getfield 90, 3, [174, 1, 1, 1]),
  (12, .if_icmp .ge 7, 3, [19]),
  (15, .iconst 1, 1, []),
  (16, .goto 4, 3, [20]),
  (19, .iconst 0, 1, []),
  (20, .ireturn, 1, [1])]
def mr107 (S : Nat → mv_Sp) (P : mv_Post) : mv_Kt := mv_R mv_DF mk107 S (0, 0) P
theorem e107_0 : mr107 S P 0 L st sh M c s = (q_isI (q_gv L 1) ∧ mr107 S P 1 L (q_gv L 1 :: st) sh M c s) := (propext (mv_R_iff (i := .iload_n 1) (len := 1) (ax := []) (by decide +kernel))).trans (q_ldI_eq (K := fun st => mr107 S P 1 L st sh M c s))
theorem e107_1 {x : Int32} : mr107 S P 1 L (.int x :: st) sh M c s = (if x < nI 0 then mr107 S P 19 L st sh M c s else mr107 S P 4 L st sh M c s) := (propext (mv_R_iff (i := .ifCond .lt 18) (len := 3) (ax := [19]) (by decide +kernel))).trans (q_br)
theorem e107_4 : mr107 S P 4 L st sh M c s = (q_isI (q_gv L 1) ∧ mr107 S P 5 L (q_gv L 1 :: st) sh M c s) := (propext (mv_R_iff (i := .iload_n 1) (len := 1) (ax := []) (by decide +kernel))).trans (q_ldI_eq (K := fun st => mr107 S P 5 L st sh M c s))
theorem e107_5 : mr107 S P 5 L st sh M c s = (q_isA (q_gv L 0) ∧ mr107 S P 6 L (q_gv L 0 :: st) sh M c s) := (propext (mv_R_iff (i := .aload_n 0) (len := 1) (ax := []) (by decide +kernel))).trans (q_ldA_eq (K := fun st => mr107 S P 6 L st sh M c s))
theorem e107_6 {a : Nat} : mr107 S P 6 L (.ref a :: st) sh M c s = (mv_kgf sh M a 4 1 (mr107 S P) 9 L st c s) := propext (mv_R_iff (i := .getfield 19) (len := 3) (ax := [524, 0, 4, 1]) (by decide +kernel))
theorem e107_9 {a : Nat} : mr107 S P 9 L (.ref a :: st) sh M c s = (mv_kgf sh M a 1 1 (mr107 S P) 12 L st c s) := propext (mv_R_iff (i := .getfield 90) (len := 3) (ax := [174, 1, 1, 1]) (by decide +kernel))
theorem e107_12 {y : Int32} {x : Int32} : mr107 S P 12 L (.int y :: .int x :: st) sh M c s = (if y ≤ x then mr107 S P 19 L st sh M c s else mr107 S P 15 L st sh M c s) := (propext (mv_R_iff (i := .if_icmp .ge 7) (len := 3) (ax := [19]) (by decide +kernel))).trans (q_br)
theorem e107_15 : mr107 S P 15 L st sh M c s = (mr107 S P 16 L (.int (nI 1) :: st) sh M c s) := propext (mv_R_iff (i := .iconst 1) (len := 1) (ax := []) (by decide +kernel))
theorem e107_16 : mr107 S P 16 L st sh M c s = (mr107 S P 20 L st sh M c s) := propext (mv_R_iff (i := .goto 4) (len := 3) (ax := [20]) (by decide +kernel))
theorem e107_19 : mr107 S P 19 L st sh M c s = (mr107 S P 20 L (.int (nI 0) :: st) sh M c s) := propext (mv_R_iff (i := .iconst 0) (len := 1) (ax := []) (by decide +kernel))
theorem e107_20 {x : Int32} : mr107 S P 20 L [.int x] sh M c s = (mv_nr 1 x ∧ P (some (.int x)) sh M) := propext (mv_R_iff (i := .ireturn) (len := 1) (ax := [1]) (by decide +kernel))
-- 108: TurnedTablets.isWay(I)Z
def mk108 : mv_Cd := [
  (0, .iload_n 0, 1, []),
  (1, .ifCond .eq 8, 3, [9]),
  (4, .iload_n 0, 1, []),
  (5, .iconst 1, 1, []),
  (6, .if_icmp .ne 7, 3, [13]),
  (9, .iconst 1, 1, []),
  (10, .goto 4, 3, [14]),
  (13, .iconst 0, 1, []),
  (14, .ireturn, 1, [1])]
def mr108 (S : Nat → mv_Sp) (P : mv_Post) : mv_Kt := mv_R mv_DF mk108 S (0, 0) P
theorem e108_0 : mr108 S P 0 L st sh M c s = (q_isI (q_gv L 0) ∧ mr108 S P 1 L (q_gv L 0 :: st) sh M c s) := (propext (mv_R_iff (i := .iload_n 0) (len := 1) (ax := []) (by decide +kernel))).trans (q_ldI_eq (K := fun st => mr108 S P 1 L st sh M c s))
theorem e108_1 {x : Int32} : mr108 S P 1 L (.int x :: st) sh M c s = (if x = nI 0 then mr108 S P 9 L st sh M c s else mr108 S P 4 L st sh M c s) := (propext (mv_R_iff (i := .ifCond .eq 8) (len := 3) (ax := [9]) (by decide +kernel))).trans (q_br)
theorem e108_4 : mr108 S P 4 L st sh M c s = (q_isI (q_gv L 0) ∧ mr108 S P 5 L (q_gv L 0 :: st) sh M c s) := (propext (mv_R_iff (i := .iload_n 0) (len := 1) (ax := []) (by decide +kernel))).trans (q_ldI_eq (K := fun st => mr108 S P 5 L st sh M c s))
theorem e108_5 : mr108 S P 5 L st sh M c s = (mr108 S P 6 L (.int (nI 1) :: st) sh M c s) := propext (mv_R_iff (i := .iconst 1) (len := 1) (ax := []) (by decide +kernel))
theorem e108_6 {y : Int32} {x : Int32} : mr108 S P 6 L (.int y :: .int x :: st) sh M c s = (if x = y then mr108 S P 9 L st sh M c s else mr108 S P 13 L st sh M c s) := (propext (mv_R_iff (i := .if_icmp .ne 7) (len := 3) (ax := [13]) (by decide +kernel))).trans (q_br')
theorem e108_9 : mr108 S P 9 L st sh M c s = (mr108 S P 10 L (.int (nI 1) :: st) sh M c s) := propext (mv_R_iff (i := .iconst 1) (len := 1) (ax := []) (by decide +kernel))
theorem e108_10 : mr108 S P 10 L st sh M c s = (mr108 S P 14 L st sh M c s) := propext (mv_R_iff (i := .goto 4) (len := 3) (ax := [14]) (by decide +kernel))
theorem e108_13 : mr108 S P 13 L st sh M c s = (mr108 S P 14 L (.int (nI 0) :: st) sh M c s) := propext (mv_R_iff (i := .iconst 0) (len := 1) (ax := []) (by decide +kernel))
theorem e108_14 {x : Int32} : mr108 S P 14 L [.int x] sh M c s = (mv_nr 1 x ∧ P (some (.int x)) sh M) := propext (mv_R_iff (i := .ireturn) (len := 1) (ax := [1]) (by decide +kernel))
-- 119: TurnedTablets.pack(I)I
def mk119 : mv_Cd := [
  (0, .aload_n 0, 1, []),
  (1, .iload_n 1, 1, []),
  (2, .invokevirtual 127, 3, [0, 107, 2, 4, 0, 0, 0, 624, 626, 24, 104, 627]),
  (5, .ifCond .eq 14, 3, [19]),
  (8, .aload_n 0, 1, []),
  (9, .getfield 19, 3, [524, 0, 4, 1]),
  (12, .iload_n 1, 1, []),
  (13, .invokevirtual 130, 3, [1, 57, 2, 1, 0, 0, 628, 630, 25, 109, 631]),
  (16, .goto 4, 3, [20]),
  (19, .iconst (-1), 1, []),
  (20, .ireturn, 1, [0])]
def mr119 (S : Nat → mv_Sp) (P : mv_Post) : mv_Kt := mv_R mv_DF mk119 S (0, 0) P
theorem e119_0 : mr119 S P 0 L st sh M c s = (q_isA (q_gv L 0) ∧ mr119 S P 1 L (q_gv L 0 :: st) sh M c s) := (propext (mv_R_iff (i := .aload_n 0) (len := 1) (ax := []) (by decide +kernel))).trans (q_ldA_eq (K := fun st => mr119 S P 1 L st sh M c s))
theorem e119_1 : mr119 S P 1 L st sh M c s = (q_isI (q_gv L 1) ∧ mr119 S P 2 L (q_gv L 1 :: st) sh M c s) := (propext (mv_R_iff (i := .iload_n 1) (len := 1) (ax := []) (by decide +kernel))).trans (q_ldI_eq (K := fun st => mr119 S P 2 L st sh M c s))
theorem e119_2 {v2 : Value} {v1 : Value} : mr119 S P 2 L (v2 :: v1 :: st) sh M c s = (mv_ss st ≤ 8 ∧ c ≤ 0 ∧ s ≤ 0 ∧ mv_isO sh (some v1) 4 ∧ mv_kal S 107 [v1, v2] sh M (mr119 S P) 5 L st c s) := (propext (mv_R_iff (i := .invokevirtual 127) (len := 3) (ax := [0, 107, 2, 4, 0, 0, 0, 624, 626, 24, 104, 627]) (by decide +kernel))).trans (q_call0)
theorem e119_5 {x : Int32} : mr119 S P 5 L (.int x :: st) sh M c s = (if x = nI 0 then mr119 S P 19 L st sh M c s else mr119 S P 8 L st sh M c s) := (propext (mv_R_iff (i := .ifCond .eq 14) (len := 3) (ax := [19]) (by decide +kernel))).trans (q_br)
theorem e119_8 : mr119 S P 8 L st sh M c s = (q_isA (q_gv L 0) ∧ mr119 S P 9 L (q_gv L 0 :: st) sh M c s) := (propext (mv_R_iff (i := .aload_n 0) (len := 1) (ax := []) (by decide +kernel))).trans (q_ldA_eq (K := fun st => mr119 S P 9 L st sh M c s))
theorem e119_9 {a : Nat} : mr119 S P 9 L (.ref a :: st) sh M c s = (mv_kgf sh M a 4 1 (mr119 S P) 12 L st c s) := propext (mv_R_iff (i := .getfield 19) (len := 3) (ax := [524, 0, 4, 1]) (by decide +kernel))
theorem e119_12 : mr119 S P 12 L st sh M c s = (q_isI (q_gv L 1) ∧ mr119 S P 13 L (q_gv L 1 :: st) sh M c s) := (propext (mv_R_iff (i := .iload_n 1) (len := 1) (ax := []) (by decide +kernel))).trans (q_ldI_eq (K := fun st => mr119 S P 13 L st sh M c s))
theorem e119_13 {v2 : Value} {v1 : Value} : mr119 S P 13 L (v2 :: v1 :: st) sh M c s = (mv_ss st ≤ 8 ∧ c ≤ 0 ∧ s ≤ 0 ∧ mv_isO sh (some v1) 1 ∧ mv_kal S 57 [v1, v2] sh M (mr119 S P) 16 L st c s) := (propext (mv_R_iff (i := .invokevirtual 130) (len := 3) (ax := [1, 57, 2, 1, 0, 0, 628, 630, 25, 109, 631]) (by decide +kernel))).trans (q_call1)
theorem e119_16 : mr119 S P 16 L st sh M c s = (mr119 S P 20 L st sh M c s) := propext (mv_R_iff (i := .goto 4) (len := 3) (ax := [20]) (by decide +kernel))
theorem e119_19 : mr119 S P 19 L st sh M c s = (mr119 S P 20 L (.int (Int32.ofInt (-1)) :: st) sh M c s) := propext (mv_R_iff (i := .iconst (-1)) (len := 1) (ax := []) (by decide +kernel))
theorem e119_20 {x : Int32} : mr119 S P 20 L [.int x] sh M c s = (mv_nr 0 x ∧ P (some (.int x)) sh M) := propext (mv_R_iff (i := .ireturn) (len := 1) (ax := [0]) (by decide +kernel))
-- 123: TurnedTablets.row(II)I
def mk123 : mv_Cd := [
  (0, .iload_n 1, 1, []),
  (1, .ifCond .lt 12, 3, [13]),
  (4, .iload_n 2, 1, []),
  (5, .ifCond .lt 8, 3, [13]),
  (8, .iload_n 2, 1, []),
  (9, .iconst 1, 1, []),
  (10, .if_icmp .le 5, 3, [15]),
  (13, .iconst (-1), 1, []),
  (14, .ireturn, 1, [0]),
  (15, .iload_n 1, 1, []),
  (16, .aload_n 0, 1, []),
  (17, .getfield 35, 3, [526, 0, 4, 3]),
  (20, .getfield 148, 3, [239, 1, 0, 2]),
  (23, .if_icmp .lt 6, 3, [29]),
  (26, .bipush (-4), 2, []),
  (28, .ireturn, 1, [0]),
  (29, .iload_n 2, 1, []),
  (30, .ifCond .ne 14, 3, [44]),
  (33, .aload_n 0, 1, []),
  (34, .getfield 35, 3, [526, 0, 4, 3]),
  (37, .iload_n 1, 1, []),
  (38, .invokevirtual 151, 3, [1, 121, 2, 0, 0, 0, 664, 666, 30, 111, 667]),
  (41, .goto 11, 3, [52]),
  (44, .aload_n 0, 1, []),
  (45, .getfield 35, 3, [526, 0, 4, 3]),
  (48, .iload_n 1, 1, []),
  (49, .invokevirtual 154, 3, [1, 122, 2, 0, 0, 0, 668, 670, 31, 111, 671]),
  (52, .ireturn, 1, [0])]
def mr123 (S : Nat → mv_Sp) (P : mv_Post) : mv_Kt := mv_R mv_DF mk123 S (0, 0) P
theorem e123_0 : mr123 S P 0 L st sh M c s = (q_isI (q_gv L 1) ∧ mr123 S P 1 L (q_gv L 1 :: st) sh M c s) := (propext (mv_R_iff (i := .iload_n 1) (len := 1) (ax := []) (by decide +kernel))).trans (q_ldI_eq (K := fun st => mr123 S P 1 L st sh M c s))
theorem e123_1 {x : Int32} : mr123 S P 1 L (.int x :: st) sh M c s = (if x < nI 0 then mr123 S P 13 L st sh M c s else mr123 S P 4 L st sh M c s) := (propext (mv_R_iff (i := .ifCond .lt 12) (len := 3) (ax := [13]) (by decide +kernel))).trans (q_br)
theorem e123_4 : mr123 S P 4 L st sh M c s = (q_isI (q_gv L 2) ∧ mr123 S P 5 L (q_gv L 2 :: st) sh M c s) := (propext (mv_R_iff (i := .iload_n 2) (len := 1) (ax := []) (by decide +kernel))).trans (q_ldI_eq (K := fun st => mr123 S P 5 L st sh M c s))
theorem e123_5 {x : Int32} : mr123 S P 5 L (.int x :: st) sh M c s = (if x < nI 0 then mr123 S P 13 L st sh M c s else mr123 S P 8 L st sh M c s) := (propext (mv_R_iff (i := .ifCond .lt 8) (len := 3) (ax := [13]) (by decide +kernel))).trans (q_br)
theorem e123_8 : mr123 S P 8 L st sh M c s = (q_isI (q_gv L 2) ∧ mr123 S P 9 L (q_gv L 2 :: st) sh M c s) := (propext (mv_R_iff (i := .iload_n 2) (len := 1) (ax := []) (by decide +kernel))).trans (q_ldI_eq (K := fun st => mr123 S P 9 L st sh M c s))
theorem e123_9 : mr123 S P 9 L st sh M c s = (mr123 S P 10 L (.int (nI 1) :: st) sh M c s) := propext (mv_R_iff (i := .iconst 1) (len := 1) (ax := []) (by decide +kernel))
theorem e123_10 {y : Int32} {x : Int32} : mr123 S P 10 L (.int y :: .int x :: st) sh M c s = (if x ≤ y then mr123 S P 15 L st sh M c s else mr123 S P 13 L st sh M c s) := (propext (mv_R_iff (i := .if_icmp .le 5) (len := 3) (ax := [15]) (by decide +kernel))).trans (q_br)
theorem e123_13 : mr123 S P 13 L st sh M c s = (mr123 S P 14 L (.int (Int32.ofInt (-1)) :: st) sh M c s) := propext (mv_R_iff (i := .iconst (-1)) (len := 1) (ax := []) (by decide +kernel))
theorem e123_14 {x : Int32} : mr123 S P 14 L [.int x] sh M c s = (mv_nr 0 x ∧ P (some (.int x)) sh M) := propext (mv_R_iff (i := .ireturn) (len := 1) (ax := [0]) (by decide +kernel))
theorem e123_15 : mr123 S P 15 L st sh M c s = (q_isI (q_gv L 1) ∧ mr123 S P 16 L (q_gv L 1 :: st) sh M c s) := (propext (mv_R_iff (i := .iload_n 1) (len := 1) (ax := []) (by decide +kernel))).trans (q_ldI_eq (K := fun st => mr123 S P 16 L st sh M c s))
theorem e123_16 : mr123 S P 16 L st sh M c s = (q_isA (q_gv L 0) ∧ mr123 S P 17 L (q_gv L 0 :: st) sh M c s) := (propext (mv_R_iff (i := .aload_n 0) (len := 1) (ax := []) (by decide +kernel))).trans (q_ldA_eq (K := fun st => mr123 S P 17 L st sh M c s))
theorem e123_17 {a : Nat} : mr123 S P 17 L (.ref a :: st) sh M c s = (mv_kgf sh M a 4 3 (mr123 S P) 20 L st c s) := propext (mv_R_iff (i := .getfield 35) (len := 3) (ax := [526, 0, 4, 3]) (by decide +kernel))
theorem e123_20 {a : Nat} : mr123 S P 20 L (.ref a :: st) sh M c s = (mv_kgf sh M a 0 2 (mr123 S P) 23 L st c s) := propext (mv_R_iff (i := .getfield 148) (len := 3) (ax := [239, 1, 0, 2]) (by decide +kernel))
theorem e123_23 {y : Int32} {x : Int32} : mr123 S P 23 L (.int y :: .int x :: st) sh M c s = (if x < y then mr123 S P 29 L st sh M c s else mr123 S P 26 L st sh M c s) := (propext (mv_R_iff (i := .if_icmp .lt 6) (len := 3) (ax := [29]) (by decide +kernel))).trans (q_br)
theorem e123_26 : mr123 S P 26 L st sh M c s = (mr123 S P 28 L (.int (Int32.ofInt (-4)) :: st) sh M c s) := (propext (mv_R_iff (i := .bipush (-4)) (len := 2) (ax := []) (by decide +kernel))).trans (congrArg (fun z => mr123 S P 28 L (.int z :: st) sh M c s) (by decide : (Int8.ofInt (-4)).toInt32 = Int32.ofInt (-4)))
theorem e123_28 {x : Int32} : mr123 S P 28 L [.int x] sh M c s = (mv_nr 0 x ∧ P (some (.int x)) sh M) := propext (mv_R_iff (i := .ireturn) (len := 1) (ax := [0]) (by decide +kernel))
theorem e123_29 : mr123 S P 29 L st sh M c s = (q_isI (q_gv L 2) ∧ mr123 S P 30 L (q_gv L 2 :: st) sh M c s) := (propext (mv_R_iff (i := .iload_n 2) (len := 1) (ax := []) (by decide +kernel))).trans (q_ldI_eq (K := fun st => mr123 S P 30 L st sh M c s))
theorem e123_30 {x : Int32} : mr123 S P 30 L (.int x :: st) sh M c s = (if x = nI 0 then mr123 S P 33 L st sh M c s else mr123 S P 44 L st sh M c s) := (propext (mv_R_iff (i := .ifCond .ne 14) (len := 3) (ax := [44]) (by decide +kernel))).trans (q_br')
theorem e123_33 : mr123 S P 33 L st sh M c s = (q_isA (q_gv L 0) ∧ mr123 S P 34 L (q_gv L 0 :: st) sh M c s) := (propext (mv_R_iff (i := .aload_n 0) (len := 1) (ax := []) (by decide +kernel))).trans (q_ldA_eq (K := fun st => mr123 S P 34 L st sh M c s))
theorem e123_34 {a : Nat} : mr123 S P 34 L (.ref a :: st) sh M c s = (mv_kgf sh M a 4 3 (mr123 S P) 37 L st c s) := propext (mv_R_iff (i := .getfield 35) (len := 3) (ax := [526, 0, 4, 3]) (by decide +kernel))
theorem e123_37 : mr123 S P 37 L st sh M c s = (q_isI (q_gv L 1) ∧ mr123 S P 38 L (q_gv L 1 :: st) sh M c s) := (propext (mv_R_iff (i := .iload_n 1) (len := 1) (ax := []) (by decide +kernel))).trans (q_ldI_eq (K := fun st => mr123 S P 38 L st sh M c s))
theorem e123_38 {v2 : Value} {v1 : Value} : mr123 S P 38 L (v2 :: v1 :: st) sh M c s = (mv_ss st ≤ 8 ∧ c ≤ 0 ∧ s ≤ 0 ∧ mv_isO sh (some v1) 0 ∧ mv_kal S 121 [v1, v2] sh M (mr123 S P) 41 L st c s) := (propext (mv_R_iff (i := .invokevirtual 151) (len := 3) (ax := [1, 121, 2, 0, 0, 0, 664, 666, 30, 111, 667]) (by decide +kernel))).trans (q_call1)
theorem e123_41 : mr123 S P 41 L st sh M c s = (mr123 S P 52 L st sh M c s) := propext (mv_R_iff (i := .goto 11) (len := 3) (ax := [52]) (by decide +kernel))
theorem e123_44 : mr123 S P 44 L st sh M c s = (q_isA (q_gv L 0) ∧ mr123 S P 45 L (q_gv L 0 :: st) sh M c s) := (propext (mv_R_iff (i := .aload_n 0) (len := 1) (ax := []) (by decide +kernel))).trans (q_ldA_eq (K := fun st => mr123 S P 45 L st sh M c s))
theorem e123_45 {a : Nat} : mr123 S P 45 L (.ref a :: st) sh M c s = (mv_kgf sh M a 4 3 (mr123 S P) 48 L st c s) := propext (mv_R_iff (i := .getfield 35) (len := 3) (ax := [526, 0, 4, 3]) (by decide +kernel))
theorem e123_48 : mr123 S P 48 L st sh M c s = (q_isI (q_gv L 1) ∧ mr123 S P 49 L (q_gv L 1 :: st) sh M c s) := (propext (mv_R_iff (i := .iload_n 1) (len := 1) (ax := []) (by decide +kernel))).trans (q_ldI_eq (K := fun st => mr123 S P 49 L st sh M c s))
theorem e123_49 {v2 : Value} {v1 : Value} : mr123 S P 49 L (v2 :: v1 :: st) sh M c s = (mv_ss st ≤ 8 ∧ c ≤ 0 ∧ s ≤ 0 ∧ mv_isO sh (some v1) 0 ∧ mv_kal S 122 [v1, v2] sh M (mr123 S P) 52 L st c s) := (propext (mv_R_iff (i := .invokevirtual 154) (len := 3) (ax := [1, 122, 2, 0, 0, 0, 668, 670, 31, 111, 671]) (by decide +kernel))).trans (q_call1)
theorem e123_52 {x : Int32} : mr123 S P 52 L [.int x] sh M c s = (mv_nr 0 x ∧ P (some (.int x)) sh M) := propext (mv_R_iff (i := .ireturn) (len := 1) (ax := [0]) (by decide +kernel))
-- 95: TurnedTablets.count(I)I
def mk95 : mv_Cd := [
  (0, .iload_n 1, 1, []),
  (1, .tableswitch 133 0 9 #[55, 63, 71, 79, 87, 95, 110, 115, 120, 125], 55, [134, 56, 64, 72, 80, 88, 96, 111, 116, 121, 126]),
  (56, .aload_n 0, 1, []),
  (57, .getfield 19, 3, [524, 0, 4, 1]),
  (60, .getfield 86, 3, [168, 1, 1, 0]),
  (63, .ireturn, 1, [0]),
  (64, .aload_n 0, 1, []),
  (65, .getfield 19, 3, [524, 0, 4, 1]),
  (68, .getfield 90, 3, [174, 1, 1, 1]),
  (71, .ireturn, 1, [0]),
  (72, .aload_n 0, 1, []),
  (73, .getfield 19, 3, [524, 0, 4, 1]),
  (76, .getfield 133, 3, [178, 1, 1, 2]),
  (79, .ireturn, 1, [0]),
  (80, .aload_n 0, 1, []),
  (81, .getfield 19, 3, [524, 0, 4, 1]),
  (84, .getfield 267, 3, [182, 1, 1, 3]),
  (87, .ireturn, 1, [0]),
  (88, .aload_n 0, 1, []),
  (89, .getfield 35, 3, [526, 0, 4, 3]),
  (92, .getfield 148, 3, [239, 1, 0, 2]),
  (95, .ireturn, 1, [0]),
  (96, .aload_n 0, 1, []),
  (97, .getfield 35, 3, [526, 0, 4, 3]),
  (100, .aload_n 0, 1, []),
  (101, .getfield 19, 3, [524, 0, 4, 1]),
  (104, .getfield 86, 3, [168, 1, 1, 0]),
  (107, .invokevirtual 270, 3, [1, 94, 2, 0, 0, 0, 967, 969, 69, 111, 970]),
  (110, .ireturn, 1, [0]),
  (111, .aload_n 0, 1, []),
  (112, .getfield 100, 3, [534, 0, 4, 11]),
  (115, .ireturn, 1, [0]),
  (116, .aload_n 0, 1, []),
  (117, .getfield 103, 3, [530, 0, 4, 7]),
  (120, .ireturn, 1, [0]),
  (121, .aload_n 0, 1, []),
  (122, .getfield 106, 3, [532, 0, 4, 9]),
  (125, .ireturn, 1, [0]),
  (126, .aload_n 0, 1, []),
  (127, .getfield 12, 3, [523, 0, 4, 0]),
  (130, .invokevirtual 74, 3, [0, 20, 1, 6, 0, 0, 0, 567, 401, 402, 106, 403]),
  (133, .ireturn, 1, [0]),
  (134, .iconst (-1), 1, []),
  (135, .ireturn, 1, [0])]
def mr95 (S : Nat → mv_Sp) (P : mv_Post) : mv_Kt := mv_R mv_DF mk95 S (0, 0) P
theorem e95_0 : mr95 S P 0 L st sh M c s = (q_isI (q_gv L 1) ∧ mr95 S P 1 L (q_gv L 1 :: st) sh M c s) := (propext (mv_R_iff (i := .iload_n 1) (len := 1) (ax := []) (by decide +kernel))).trans (q_ldI_eq (K := fun st => mr95 S P 1 L st sh M c s))
theorem e95_1 {x : Int32} : mr95 S P 1 L (.int x :: st) sh M c s = (if x = (nI 0) then mr95 S P 56 L st sh M c s else if x = (nI 1) then mr95 S P 64 L st sh M c s else if x = (nI 2) then mr95 S P 72 L st sh M c s else if x = (nI 3) then mr95 S P 80 L st sh M c s else if x = (nI 4) then mr95 S P 88 L st sh M c s else if x = (nI 5) then mr95 S P 96 L st sh M c s else if x = (nI 6) then mr95 S P 111 L st sh M c s else if x = (nI 7) then mr95 S P 116 L st sh M c s else if x = (nI 8) then mr95 S P 121 L st sh M c s else if x = (nI 9) then mr95 S P 126 L st sh M c s else mr95 S P 134 L st sh M c s) := (propext (mv_R_iff (i := .tableswitch 133 0 9 #[55, 63, 71, 79, 87, 95, 110, 115, 120, 125]) (len := 55) (ax := [134, 56, 64, 72, 80, 88, 96, 111, 116, 121, 126]) (by decide +kernel))).trans (q_sw10)
theorem e95_56 : mr95 S P 56 L st sh M c s = (q_isA (q_gv L 0) ∧ mr95 S P 57 L (q_gv L 0 :: st) sh M c s) := (propext (mv_R_iff (i := .aload_n 0) (len := 1) (ax := []) (by decide +kernel))).trans (q_ldA_eq (K := fun st => mr95 S P 57 L st sh M c s))
theorem e95_57 {a : Nat} : mr95 S P 57 L (.ref a :: st) sh M c s = (mv_kgf sh M a 4 1 (mr95 S P) 60 L st c s) := propext (mv_R_iff (i := .getfield 19) (len := 3) (ax := [524, 0, 4, 1]) (by decide +kernel))
theorem e95_60 {a : Nat} : mr95 S P 60 L (.ref a :: st) sh M c s = (mv_kgf sh M a 1 0 (mr95 S P) 63 L st c s) := propext (mv_R_iff (i := .getfield 86) (len := 3) (ax := [168, 1, 1, 0]) (by decide +kernel))
theorem e95_63 {x : Int32} : mr95 S P 63 L [.int x] sh M c s = (mv_nr 0 x ∧ P (some (.int x)) sh M) := propext (mv_R_iff (i := .ireturn) (len := 1) (ax := [0]) (by decide +kernel))
theorem e95_64 : mr95 S P 64 L st sh M c s = (q_isA (q_gv L 0) ∧ mr95 S P 65 L (q_gv L 0 :: st) sh M c s) := (propext (mv_R_iff (i := .aload_n 0) (len := 1) (ax := []) (by decide +kernel))).trans (q_ldA_eq (K := fun st => mr95 S P 65 L st sh M c s))
theorem e95_65 {a : Nat} : mr95 S P 65 L (.ref a :: st) sh M c s = (mv_kgf sh M a 4 1 (mr95 S P) 68 L st c s) := propext (mv_R_iff (i := .getfield 19) (len := 3) (ax := [524, 0, 4, 1]) (by decide +kernel))
theorem e95_68 {a : Nat} : mr95 S P 68 L (.ref a :: st) sh M c s = (mv_kgf sh M a 1 1 (mr95 S P) 71 L st c s) := propext (mv_R_iff (i := .getfield 90) (len := 3) (ax := [174, 1, 1, 1]) (by decide +kernel))
theorem e95_71 {x : Int32} : mr95 S P 71 L [.int x] sh M c s = (mv_nr 0 x ∧ P (some (.int x)) sh M) := propext (mv_R_iff (i := .ireturn) (len := 1) (ax := [0]) (by decide +kernel))
theorem e95_72 : mr95 S P 72 L st sh M c s = (q_isA (q_gv L 0) ∧ mr95 S P 73 L (q_gv L 0 :: st) sh M c s) := (propext (mv_R_iff (i := .aload_n 0) (len := 1) (ax := []) (by decide +kernel))).trans (q_ldA_eq (K := fun st => mr95 S P 73 L st sh M c s))
theorem e95_73 {a : Nat} : mr95 S P 73 L (.ref a :: st) sh M c s = (mv_kgf sh M a 4 1 (mr95 S P) 76 L st c s) := propext (mv_R_iff (i := .getfield 19) (len := 3) (ax := [524, 0, 4, 1]) (by decide +kernel))
theorem e95_76 {a : Nat} : mr95 S P 76 L (.ref a :: st) sh M c s = (mv_kgf sh M a 1 2 (mr95 S P) 79 L st c s) := propext (mv_R_iff (i := .getfield 133) (len := 3) (ax := [178, 1, 1, 2]) (by decide +kernel))
theorem e95_79 {x : Int32} : mr95 S P 79 L [.int x] sh M c s = (mv_nr 0 x ∧ P (some (.int x)) sh M) := propext (mv_R_iff (i := .ireturn) (len := 1) (ax := [0]) (by decide +kernel))
theorem e95_80 : mr95 S P 80 L st sh M c s = (q_isA (q_gv L 0) ∧ mr95 S P 81 L (q_gv L 0 :: st) sh M c s) := (propext (mv_R_iff (i := .aload_n 0) (len := 1) (ax := []) (by decide +kernel))).trans (q_ldA_eq (K := fun st => mr95 S P 81 L st sh M c s))
theorem e95_81 {a : Nat} : mr95 S P 81 L (.ref a :: st) sh M c s = (mv_kgf sh M a 4 1 (mr95 S P) 84 L st c s) := propext (mv_R_iff (i := .getfield 19) (len := 3) (ax := [524, 0, 4, 1]) (by decide +kernel))
theorem e95_84 {a : Nat} : mr95 S P 84 L (.ref a :: st) sh M c s = (mv_kgf sh M a 1 3 (mr95 S P) 87 L st c s) := propext (mv_R_iff (i := .getfield 267) (len := 3) (ax := [182, 1, 1, 3]) (by decide +kernel))
theorem e95_87 {x : Int32} : mr95 S P 87 L [.int x] sh M c s = (mv_nr 0 x ∧ P (some (.int x)) sh M) := propext (mv_R_iff (i := .ireturn) (len := 1) (ax := [0]) (by decide +kernel))
theorem e95_88 : mr95 S P 88 L st sh M c s = (q_isA (q_gv L 0) ∧ mr95 S P 89 L (q_gv L 0 :: st) sh M c s) := (propext (mv_R_iff (i := .aload_n 0) (len := 1) (ax := []) (by decide +kernel))).trans (q_ldA_eq (K := fun st => mr95 S P 89 L st sh M c s))
theorem e95_89 {a : Nat} : mr95 S P 89 L (.ref a :: st) sh M c s = (mv_kgf sh M a 4 3 (mr95 S P) 92 L st c s) := propext (mv_R_iff (i := .getfield 35) (len := 3) (ax := [526, 0, 4, 3]) (by decide +kernel))
theorem e95_92 {a : Nat} : mr95 S P 92 L (.ref a :: st) sh M c s = (mv_kgf sh M a 0 2 (mr95 S P) 95 L st c s) := propext (mv_R_iff (i := .getfield 148) (len := 3) (ax := [239, 1, 0, 2]) (by decide +kernel))
theorem e95_95 {x : Int32} : mr95 S P 95 L [.int x] sh M c s = (mv_nr 0 x ∧ P (some (.int x)) sh M) := propext (mv_R_iff (i := .ireturn) (len := 1) (ax := [0]) (by decide +kernel))
theorem e95_96 : mr95 S P 96 L st sh M c s = (q_isA (q_gv L 0) ∧ mr95 S P 97 L (q_gv L 0 :: st) sh M c s) := (propext (mv_R_iff (i := .aload_n 0) (len := 1) (ax := []) (by decide +kernel))).trans (q_ldA_eq (K := fun st => mr95 S P 97 L st sh M c s))
theorem e95_97 {a : Nat} : mr95 S P 97 L (.ref a :: st) sh M c s = (mv_kgf sh M a 4 3 (mr95 S P) 100 L st c s) := propext (mv_R_iff (i := .getfield 35) (len := 3) (ax := [526, 0, 4, 3]) (by decide +kernel))
theorem e95_100 : mr95 S P 100 L st sh M c s = (q_isA (q_gv L 0) ∧ mr95 S P 101 L (q_gv L 0 :: st) sh M c s) := (propext (mv_R_iff (i := .aload_n 0) (len := 1) (ax := []) (by decide +kernel))).trans (q_ldA_eq (K := fun st => mr95 S P 101 L st sh M c s))
theorem e95_101 {a : Nat} : mr95 S P 101 L (.ref a :: st) sh M c s = (mv_kgf sh M a 4 1 (mr95 S P) 104 L st c s) := propext (mv_R_iff (i := .getfield 19) (len := 3) (ax := [524, 0, 4, 1]) (by decide +kernel))
theorem e95_104 {a : Nat} : mr95 S P 104 L (.ref a :: st) sh M c s = (mv_kgf sh M a 1 0 (mr95 S P) 107 L st c s) := propext (mv_R_iff (i := .getfield 86) (len := 3) (ax := [168, 1, 1, 0]) (by decide +kernel))
theorem e95_107 {v2 : Value} {v1 : Value} : mr95 S P 107 L (v2 :: v1 :: st) sh M c s = (mv_ss st ≤ 8 ∧ c ≤ 0 ∧ s ≤ 0 ∧ mv_isO sh (some v1) 0 ∧ mv_kal S 94 [v1, v2] sh M (mr95 S P) 110 L st c s) := (propext (mv_R_iff (i := .invokevirtual 270) (len := 3) (ax := [1, 94, 2, 0, 0, 0, 967, 969, 69, 111, 970]) (by decide +kernel))).trans (q_call1)
theorem e95_110 {x : Int32} : mr95 S P 110 L [.int x] sh M c s = (mv_nr 0 x ∧ P (some (.int x)) sh M) := propext (mv_R_iff (i := .ireturn) (len := 1) (ax := [0]) (by decide +kernel))
theorem e95_111 : mr95 S P 111 L st sh M c s = (q_isA (q_gv L 0) ∧ mr95 S P 112 L (q_gv L 0 :: st) sh M c s) := (propext (mv_R_iff (i := .aload_n 0) (len := 1) (ax := []) (by decide +kernel))).trans (q_ldA_eq (K := fun st => mr95 S P 112 L st sh M c s))
theorem e95_112 {a : Nat} : mr95 S P 112 L (.ref a :: st) sh M c s = (mv_kgf sh M a 4 11 (mr95 S P) 115 L st c s) := propext (mv_R_iff (i := .getfield 100) (len := 3) (ax := [534, 0, 4, 11]) (by decide +kernel))
theorem e95_115 {x : Int32} : mr95 S P 115 L [.int x] sh M c s = (mv_nr 0 x ∧ P (some (.int x)) sh M) := propext (mv_R_iff (i := .ireturn) (len := 1) (ax := [0]) (by decide +kernel))
theorem e95_116 : mr95 S P 116 L st sh M c s = (q_isA (q_gv L 0) ∧ mr95 S P 117 L (q_gv L 0 :: st) sh M c s) := (propext (mv_R_iff (i := .aload_n 0) (len := 1) (ax := []) (by decide +kernel))).trans (q_ldA_eq (K := fun st => mr95 S P 117 L st sh M c s))
theorem e95_117 {a : Nat} : mr95 S P 117 L (.ref a :: st) sh M c s = (mv_kgf sh M a 4 7 (mr95 S P) 120 L st c s) := propext (mv_R_iff (i := .getfield 103) (len := 3) (ax := [530, 0, 4, 7]) (by decide +kernel))
theorem e95_120 {x : Int32} : mr95 S P 120 L [.int x] sh M c s = (mv_nr 0 x ∧ P (some (.int x)) sh M) := propext (mv_R_iff (i := .ireturn) (len := 1) (ax := [0]) (by decide +kernel))
theorem e95_121 : mr95 S P 121 L st sh M c s = (q_isA (q_gv L 0) ∧ mr95 S P 122 L (q_gv L 0 :: st) sh M c s) := (propext (mv_R_iff (i := .aload_n 0) (len := 1) (ax := []) (by decide +kernel))).trans (q_ldA_eq (K := fun st => mr95 S P 122 L st sh M c s))
theorem e95_122 {a : Nat} : mr95 S P 122 L (.ref a :: st) sh M c s = (mv_kgf sh M a 4 9 (mr95 S P) 125 L st c s) := propext (mv_R_iff (i := .getfield 106) (len := 3) (ax := [532, 0, 4, 9]) (by decide +kernel))
theorem e95_125 {x : Int32} : mr95 S P 125 L [.int x] sh M c s = (mv_nr 0 x ∧ P (some (.int x)) sh M) := propext (mv_R_iff (i := .ireturn) (len := 1) (ax := [0]) (by decide +kernel))
theorem e95_126 : mr95 S P 126 L st sh M c s = (q_isA (q_gv L 0) ∧ mr95 S P 127 L (q_gv L 0 :: st) sh M c s) := (propext (mv_R_iff (i := .aload_n 0) (len := 1) (ax := []) (by decide +kernel))).trans (q_ldA_eq (K := fun st => mr95 S P 127 L st sh M c s))
theorem e95_127 {a : Nat} : mr95 S P 127 L (.ref a :: st) sh M c s = (mv_kgf sh M a 4 0 (mr95 S P) 130 L st c s) := propext (mv_R_iff (i := .getfield 12) (len := 3) (ax := [523, 0, 4, 0]) (by decide +kernel))
theorem e95_130 {v1 : Value} : mr95 S P 130 L (v1 :: st) sh M c s = (mv_ss st ≤ 8 ∧ c ≤ 0 ∧ s ≤ 0 ∧ mv_isO sh (some v1) 6 ∧ mv_kal S 20 [v1] sh M (mr95 S P) 133 L st c s) := (propext (mv_R_iff (i := .invokevirtual 74) (len := 3) (ax := [0, 20, 1, 6, 0, 0, 0, 567, 401, 402, 106, 403]) (by decide +kernel))).trans (q_call0)
theorem e95_133 {x : Int32} : mr95 S P 133 L [.int x] sh M c s = (mv_nr 0 x ∧ P (some (.int x)) sh M) := propext (mv_R_iff (i := .ireturn) (len := 1) (ax := [0]) (by decide +kernel))
theorem e95_134 : mr95 S P 134 L st sh M c s = (mr95 S P 135 L (.int (Int32.ofInt (-1)) :: st) sh M c s) := propext (mv_R_iff (i := .iconst (-1)) (len := 1) (ax := []) (by decide +kernel))
theorem e95_135 {x : Int32} : mr95 S P 135 L [.int x] sh M c s = (mv_nr 0 x ∧ P (some (.int x)) sh M) := propext (mv_R_iff (i := .ireturn) (len := 1) (ax := [0]) (by decide +kernel))
-- 117: Integer.bitCount(I)I
def mk117 : mv_Cd := [
  (0, .iload_n 0, 1, []),
  (1, .iload_n 0, 1, []),
  (2, .iconst 1, 1, []),
  (3, .iushr, 1, []),
  (4, .ldc_w 265, 3, [879, 1431655765]),
  (7, .iand, 1, []),
  (8, .isub, 1, []),
  (9, .istore_n 0, 1, []),
  (10, .iload_n 0, 1, []),
  (11, .ldc_w 266, 3, [880, 858993459]),
  (14, .iand, 1, []),
  (15, .iload_n 0, 1, []),
  (16, .iconst 2, 1, []),
  (17, .iushr, 1, []),
  (18, .ldc_w 266, 3, [880, 858993459]),
  (21, .iand, 1, []),
  (22, .iadd, 1, []),
  (23, .istore_n 0, 1, []),
  (24, .iload_n 0, 1, []),
  (25, .iload_n 0, 1, []),
  (26, .iconst 4, 1, []),
  (27, .iushr, 1, []),
  (28, .iadd, 1, []),
  (29, .ldc_w 267, 3, [881, 252645135]),
  (32, .iand, 1, []),
  (33, .istore_n 0, 1, []),
  (34, .iload_n 0, 1, []),
  (35, .iload_n 0, 1, []),
  (36, .bipush 8, 2, []),
  (38, .iushr, 1, []),
  (39, .iadd, 1, []),
  (40, .istore_n 0, 1, []),
  (41, .iload_n 0, 1, []),
  (42, .iload_n 0, 1, []),
  (43, .bipush 16, 2, []),
  (45, .iushr, 1, []),
  (46, .iadd, 1, []),
  (47, .istore_n 0, 1, []),
  (48, .iload_n 0, 1, []),
  (49, .bipush 63, 2, []),
  (51, .iand, 1, []),
  (52, .ireturn, 1, [0])]
def mr117 (S : Nat → mv_Sp) (P : mv_Post) : mv_Kt := mv_R mv_DF mk117 S (0, 0) P
theorem e117_0 : mr117 S P 0 L st sh M c s = (q_isI (q_gv L 0) ∧ mr117 S P 1 L (q_gv L 0 :: st) sh M c s) := (propext (mv_R_iff (i := .iload_n 0) (len := 1) (ax := []) (by decide +kernel))).trans (q_ldI_eq (K := fun st => mr117 S P 1 L st sh M c s))
theorem e117_1 : mr117 S P 1 L st sh M c s = (q_isI (q_gv L 0) ∧ mr117 S P 2 L (q_gv L 0 :: st) sh M c s) := (propext (mv_R_iff (i := .iload_n 0) (len := 1) (ax := []) (by decide +kernel))).trans (q_ldI_eq (K := fun st => mr117 S P 2 L st sh M c s))
theorem e117_2 : mr117 S P 2 L st sh M c s = (mr117 S P 3 L (.int (nI 1) :: st) sh M c s) := propext (mv_R_iff (i := .iconst 1) (len := 1) (ax := []) (by decide +kernel))
theorem e117_3 {y : Int32} {x : Int32} : mr117 S P 3 L (.int y :: .int x :: st) sh M c s = (mr117 S P 4 L (.int ((x.toUInt32 >>> (y.toUInt32 &&& Int32.toUInt32 31)).toInt32) :: st) sh M c s) := propext (mv_R_iff (i := .iushr) (len := 1) (ax := []) (by decide +kernel))
theorem e117_4 : mr117 S P 4 L st sh M c s = (mr117 S P 7 L (.int (nI 1431655765) :: st) sh M c s) := propext (mv_R_iff (i := .ldc_w 265) (len := 3) (ax := [879, 1431655765]) (by decide +kernel))
theorem e117_7 {y : Int32} {x : Int32} : mr117 S P 7 L (.int y :: .int x :: st) sh M c s = (mr117 S P 8 L (.int (x &&& y) :: st) sh M c s) := propext (mv_R_iff (i := .iand) (len := 1) (ax := []) (by decide +kernel))
theorem e117_8 {y : Int32} {x : Int32} : mr117 S P 8 L (.int y :: .int x :: st) sh M c s = (mr117 S P 9 L (.int (x - y) :: st) sh M c s) := propext (mv_R_iff (i := .isub) (len := 1) (ax := []) (by decide +kernel))
theorem e117_9 {x : Int32} : mr117 S P 9 L (.int x :: st) sh M c s = (q_hs L 0 ∧ mr117 S P 10 (L.set 0 (some (.int x))) st sh M c s) := (propext (mv_R_iff (i := .istore_n 0) (len := 1) (ax := []) (by decide +kernel))).trans (q_st_eq (K := fun L => mr117 S P 10 L st sh M c s))
theorem e117_10 : mr117 S P 10 L st sh M c s = (q_isI (q_gv L 0) ∧ mr117 S P 11 L (q_gv L 0 :: st) sh M c s) := (propext (mv_R_iff (i := .iload_n 0) (len := 1) (ax := []) (by decide +kernel))).trans (q_ldI_eq (K := fun st => mr117 S P 11 L st sh M c s))
theorem e117_11 : mr117 S P 11 L st sh M c s = (mr117 S P 14 L (.int (nI 858993459) :: st) sh M c s) := propext (mv_R_iff (i := .ldc_w 266) (len := 3) (ax := [880, 858993459]) (by decide +kernel))
theorem e117_14 {y : Int32} {x : Int32} : mr117 S P 14 L (.int y :: .int x :: st) sh M c s = (mr117 S P 15 L (.int (x &&& y) :: st) sh M c s) := propext (mv_R_iff (i := .iand) (len := 1) (ax := []) (by decide +kernel))
theorem e117_15 : mr117 S P 15 L st sh M c s = (q_isI (q_gv L 0) ∧ mr117 S P 16 L (q_gv L 0 :: st) sh M c s) := (propext (mv_R_iff (i := .iload_n 0) (len := 1) (ax := []) (by decide +kernel))).trans (q_ldI_eq (K := fun st => mr117 S P 16 L st sh M c s))
theorem e117_16 : mr117 S P 16 L st sh M c s = (mr117 S P 17 L (.int (nI 2) :: st) sh M c s) := propext (mv_R_iff (i := .iconst 2) (len := 1) (ax := []) (by decide +kernel))
theorem e117_17 {y : Int32} {x : Int32} : mr117 S P 17 L (.int y :: .int x :: st) sh M c s = (mr117 S P 18 L (.int ((x.toUInt32 >>> (y.toUInt32 &&& Int32.toUInt32 31)).toInt32) :: st) sh M c s) := propext (mv_R_iff (i := .iushr) (len := 1) (ax := []) (by decide +kernel))
theorem e117_18 : mr117 S P 18 L st sh M c s = (mr117 S P 21 L (.int (nI 858993459) :: st) sh M c s) := propext (mv_R_iff (i := .ldc_w 266) (len := 3) (ax := [880, 858993459]) (by decide +kernel))
theorem e117_21 {y : Int32} {x : Int32} : mr117 S P 21 L (.int y :: .int x :: st) sh M c s = (mr117 S P 22 L (.int (x &&& y) :: st) sh M c s) := propext (mv_R_iff (i := .iand) (len := 1) (ax := []) (by decide +kernel))
theorem e117_22 {y : Int32} {x : Int32} : mr117 S P 22 L (.int y :: .int x :: st) sh M c s = (mr117 S P 23 L (.int (x + y) :: st) sh M c s) := propext (mv_R_iff (i := .iadd) (len := 1) (ax := []) (by decide +kernel))
theorem e117_23 {x : Int32} : mr117 S P 23 L (.int x :: st) sh M c s = (q_hs L 0 ∧ mr117 S P 24 (L.set 0 (some (.int x))) st sh M c s) := (propext (mv_R_iff (i := .istore_n 0) (len := 1) (ax := []) (by decide +kernel))).trans (q_st_eq (K := fun L => mr117 S P 24 L st sh M c s))
theorem e117_24 : mr117 S P 24 L st sh M c s = (q_isI (q_gv L 0) ∧ mr117 S P 25 L (q_gv L 0 :: st) sh M c s) := (propext (mv_R_iff (i := .iload_n 0) (len := 1) (ax := []) (by decide +kernel))).trans (q_ldI_eq (K := fun st => mr117 S P 25 L st sh M c s))
theorem e117_25 : mr117 S P 25 L st sh M c s = (q_isI (q_gv L 0) ∧ mr117 S P 26 L (q_gv L 0 :: st) sh M c s) := (propext (mv_R_iff (i := .iload_n 0) (len := 1) (ax := []) (by decide +kernel))).trans (q_ldI_eq (K := fun st => mr117 S P 26 L st sh M c s))
theorem e117_26 : mr117 S P 26 L st sh M c s = (mr117 S P 27 L (.int (nI 4) :: st) sh M c s) := propext (mv_R_iff (i := .iconst 4) (len := 1) (ax := []) (by decide +kernel))
theorem e117_27 {y : Int32} {x : Int32} : mr117 S P 27 L (.int y :: .int x :: st) sh M c s = (mr117 S P 28 L (.int ((x.toUInt32 >>> (y.toUInt32 &&& Int32.toUInt32 31)).toInt32) :: st) sh M c s) := propext (mv_R_iff (i := .iushr) (len := 1) (ax := []) (by decide +kernel))
theorem e117_28 {y : Int32} {x : Int32} : mr117 S P 28 L (.int y :: .int x :: st) sh M c s = (mr117 S P 29 L (.int (x + y) :: st) sh M c s) := propext (mv_R_iff (i := .iadd) (len := 1) (ax := []) (by decide +kernel))
theorem e117_29 : mr117 S P 29 L st sh M c s = (mr117 S P 32 L (.int (nI 252645135) :: st) sh M c s) := propext (mv_R_iff (i := .ldc_w 267) (len := 3) (ax := [881, 252645135]) (by decide +kernel))
theorem e117_32 {y : Int32} {x : Int32} : mr117 S P 32 L (.int y :: .int x :: st) sh M c s = (mr117 S P 33 L (.int (x &&& y) :: st) sh M c s) := propext (mv_R_iff (i := .iand) (len := 1) (ax := []) (by decide +kernel))
theorem e117_33 {x : Int32} : mr117 S P 33 L (.int x :: st) sh M c s = (q_hs L 0 ∧ mr117 S P 34 (L.set 0 (some (.int x))) st sh M c s) := (propext (mv_R_iff (i := .istore_n 0) (len := 1) (ax := []) (by decide +kernel))).trans (q_st_eq (K := fun L => mr117 S P 34 L st sh M c s))
theorem e117_34 : mr117 S P 34 L st sh M c s = (q_isI (q_gv L 0) ∧ mr117 S P 35 L (q_gv L 0 :: st) sh M c s) := (propext (mv_R_iff (i := .iload_n 0) (len := 1) (ax := []) (by decide +kernel))).trans (q_ldI_eq (K := fun st => mr117 S P 35 L st sh M c s))
theorem e117_35 : mr117 S P 35 L st sh M c s = (q_isI (q_gv L 0) ∧ mr117 S P 36 L (q_gv L 0 :: st) sh M c s) := (propext (mv_R_iff (i := .iload_n 0) (len := 1) (ax := []) (by decide +kernel))).trans (q_ldI_eq (K := fun st => mr117 S P 36 L st sh M c s))
theorem e117_36 : mr117 S P 36 L st sh M c s = (mr117 S P 38 L (.int (nI 8) :: st) sh M c s) := propext (mv_R_iff (i := .bipush 8) (len := 2) (ax := []) (by decide +kernel))
theorem e117_38 {y : Int32} {x : Int32} : mr117 S P 38 L (.int y :: .int x :: st) sh M c s = (mr117 S P 39 L (.int ((x.toUInt32 >>> (y.toUInt32 &&& Int32.toUInt32 31)).toInt32) :: st) sh M c s) := propext (mv_R_iff (i := .iushr) (len := 1) (ax := []) (by decide +kernel))
theorem e117_39 {y : Int32} {x : Int32} : mr117 S P 39 L (.int y :: .int x :: st) sh M c s = (mr117 S P 40 L (.int (x + y) :: st) sh M c s) := propext (mv_R_iff (i := .iadd) (len := 1) (ax := []) (by decide +kernel))
theorem e117_40 {x : Int32} : mr117 S P 40 L (.int x :: st) sh M c s = (q_hs L 0 ∧ mr117 S P 41 (L.set 0 (some (.int x))) st sh M c s) := (propext (mv_R_iff (i := .istore_n 0) (len := 1) (ax := []) (by decide +kernel))).trans (q_st_eq (K := fun L => mr117 S P 41 L st sh M c s))
theorem e117_41 : mr117 S P 41 L st sh M c s = (q_isI (q_gv L 0) ∧ mr117 S P 42 L (q_gv L 0 :: st) sh M c s) := (propext (mv_R_iff (i := .iload_n 0) (len := 1) (ax := []) (by decide +kernel))).trans (q_ldI_eq (K := fun st => mr117 S P 42 L st sh M c s))
theorem e117_42 : mr117 S P 42 L st sh M c s = (q_isI (q_gv L 0) ∧ mr117 S P 43 L (q_gv L 0 :: st) sh M c s) := (propext (mv_R_iff (i := .iload_n 0) (len := 1) (ax := []) (by decide +kernel))).trans (q_ldI_eq (K := fun st => mr117 S P 43 L st sh M c s))
theorem e117_43 : mr117 S P 43 L st sh M c s = (mr117 S P 45 L (.int (nI 16) :: st) sh M c s) := propext (mv_R_iff (i := .bipush 16) (len := 2) (ax := []) (by decide +kernel))
theorem e117_45 {y : Int32} {x : Int32} : mr117 S P 45 L (.int y :: .int x :: st) sh M c s = (mr117 S P 46 L (.int ((x.toUInt32 >>> (y.toUInt32 &&& Int32.toUInt32 31)).toInt32) :: st) sh M c s) := propext (mv_R_iff (i := .iushr) (len := 1) (ax := []) (by decide +kernel))
theorem e117_46 {y : Int32} {x : Int32} : mr117 S P 46 L (.int y :: .int x :: st) sh M c s = (mr117 S P 47 L (.int (x + y) :: st) sh M c s) := propext (mv_R_iff (i := .iadd) (len := 1) (ax := []) (by decide +kernel))
theorem e117_47 {x : Int32} : mr117 S P 47 L (.int x :: st) sh M c s = (q_hs L 0 ∧ mr117 S P 48 (L.set 0 (some (.int x))) st sh M c s) := (propext (mv_R_iff (i := .istore_n 0) (len := 1) (ax := []) (by decide +kernel))).trans (q_st_eq (K := fun L => mr117 S P 48 L st sh M c s))
theorem e117_48 : mr117 S P 48 L st sh M c s = (q_isI (q_gv L 0) ∧ mr117 S P 49 L (q_gv L 0 :: st) sh M c s) := (propext (mv_R_iff (i := .iload_n 0) (len := 1) (ax := []) (by decide +kernel))).trans (q_ldI_eq (K := fun st => mr117 S P 49 L st sh M c s))
theorem e117_49 : mr117 S P 49 L st sh M c s = (mr117 S P 51 L (.int (nI 63) :: st) sh M c s) := propext (mv_R_iff (i := .bipush 63) (len := 2) (ax := []) (by decide +kernel))
theorem e117_51 {y : Int32} {x : Int32} : mr117 S P 51 L (.int y :: .int x :: st) sh M c s = (mr117 S P 52 L (.int (x &&& y) :: st) sh M c s) := propext (mv_R_iff (i := .iand) (len := 1) (ax := []) (by decide +kernel))
theorem e117_52 {x : Int32} : mr117 S P 52 L [.int x] sh M c s = (mv_nr 0 x ∧ P (some (.int x)) sh M) := propext (mv_R_iff (i := .ireturn) (len := 1) (ax := [0]) (by decide +kernel))
end CD
