/-! code lists and step rows, written by program -/
section CD
variable {S : Nat → mv_Sp} {P : mv_Post} {L : mv_Loc} {st : List Value} {sh : mv_Shp} {M : mv_Mem} {c s : Nat}
-- 183: TurnedTabletsModel.floating()I
def mk183 : mv_Cd := [
  (0, .iconst 0, 1, []),
  (1, .istore_n 1, 1, []),
  (2, .iconst 0, 1, []),
  (3, .istore_n 2, 1, []),
  (4, .iload_n 2, 1, []),
  (5, .aload_n 0, 1, []),
  (6, .getfield 151, 3, [1028, 0, 5, 3]),
  (9, .if_icmp .ge 30, 3, [39]),
  (12, .iload_n 1, 1, []),
  (13, .aload_n 0, 1, []),
  (14, .getfield 7, 3, [1025, 0, 5, 0]),
  (17, .bipush 18, 2, []),
  (19, .iload_n 2, 1, []),
  (20, .iadd, 1, []),
  (21, .iaload, 1, []),
  (22, .iconst 3, 1, []),
  (23, .if_icmp .le 7, 3, [30]),
  (26, .iconst 1, 1, []),
  (27, .goto 4, 3, [31]),
  (30, .iconst 0, 1, []),
  (31, .iadd, 1, []),
  (32, .istore_n 1, 1, []),
  (33, .iinc 2 1, 3, []),
  (36, .goto (-32), 3, [4]),
  (39, .iload_n 1, 1, []),
  (40, .ireturn, 1, [0])]
def mr183 (S : Nat → mv_Sp) (P : mv_Post) : mv_Kt := mv_R mv_DF mk183 S (0, 0) P
theorem e183_0 : mr183 S P 0 L st sh M c s = (mr183 S P 1 L (.int (nI 0) :: st) sh M c s) := propext (mv_R_iff (i := .iconst 0) (len := 1) (ax := []) (by decide +kernel))
theorem e183_1 {x : Int32} : mr183 S P 1 L (.int x :: st) sh M c s = (q_hs L 1 ∧ mr183 S P 2 (L.set 1 (some (.int x))) st sh M c s) := (propext (mv_R_iff (i := .istore_n 1) (len := 1) (ax := []) (by decide +kernel))).trans (q_st_eq (K := fun L => mr183 S P 2 L st sh M c s))
theorem e183_2 : mr183 S P 2 L st sh M c s = (mr183 S P 3 L (.int (nI 0) :: st) sh M c s) := propext (mv_R_iff (i := .iconst 0) (len := 1) (ax := []) (by decide +kernel))
theorem e183_3 {x : Int32} : mr183 S P 3 L (.int x :: st) sh M c s = (q_hs L 2 ∧ mr183 S P 4 (L.set 2 (some (.int x))) st sh M c s) := (propext (mv_R_iff (i := .istore_n 2) (len := 1) (ax := []) (by decide +kernel))).trans (q_st_eq (K := fun L => mr183 S P 4 L st sh M c s))
theorem e183_4 : mr183 S P 4 L st sh M c s = (q_isI (q_gv L 2) ∧ mr183 S P 5 L (q_gv L 2 :: st) sh M c s) := (propext (mv_R_iff (i := .iload_n 2) (len := 1) (ax := []) (by decide +kernel))).trans (q_ldI_eq (K := fun st => mr183 S P 5 L st sh M c s))
theorem e183_5 : mr183 S P 5 L st sh M c s = (q_isA (q_gv L 0) ∧ mr183 S P 6 L (q_gv L 0 :: st) sh M c s) := (propext (mv_R_iff (i := .aload_n 0) (len := 1) (ax := []) (by decide +kernel))).trans (q_ldA_eq (K := fun st => mr183 S P 6 L st sh M c s))
theorem e183_6 {a : Nat} : mr183 S P 6 L (.ref a :: st) sh M c s = (mv_kgf sh M a 5 3 (mr183 S P) 9 L st c s) := propext (mv_R_iff (i := .getfield 151) (len := 3) (ax := [1028, 0, 5, 3]) (by decide +kernel))
theorem e183_9 {y : Int32} {x : Int32} : mr183 S P 9 L (.int y :: .int x :: st) sh M c s = (if y ≤ x then mr183 S P 39 L st sh M c s else mr183 S P 12 L st sh M c s) := (propext (mv_R_iff (i := .if_icmp .ge 30) (len := 3) (ax := [39]) (by decide +kernel))).trans (q_br)
theorem e183_12 : mr183 S P 12 L st sh M c s = (q_isI (q_gv L 1) ∧ mr183 S P 13 L (q_gv L 1 :: st) sh M c s) := (propext (mv_R_iff (i := .iload_n 1) (len := 1) (ax := []) (by decide +kernel))).trans (q_ldI_eq (K := fun st => mr183 S P 13 L st sh M c s))
theorem e183_13 : mr183 S P 13 L st sh M c s = (q_isA (q_gv L 0) ∧ mr183 S P 14 L (q_gv L 0 :: st) sh M c s) := (propext (mv_R_iff (i := .aload_n 0) (len := 1) (ax := []) (by decide +kernel))).trans (q_ldA_eq (K := fun st => mr183 S P 14 L st sh M c s))
theorem e183_14 {a : Nat} : mr183 S P 14 L (.ref a :: st) sh M c s = (mv_kgf sh M a 5 0 (mr183 S P) 17 L st c s) := propext (mv_R_iff (i := .getfield 7) (len := 3) (ax := [1025, 0, 5, 0]) (by decide +kernel))
theorem e183_17 : mr183 S P 17 L st sh M c s = (mr183 S P 19 L (.int (nI 18) :: st) sh M c s) := propext (mv_R_iff (i := .bipush 18) (len := 2) (ax := []) (by decide +kernel))
theorem e183_19 : mr183 S P 19 L st sh M c s = (q_isI (q_gv L 2) ∧ mr183 S P 20 L (q_gv L 2 :: st) sh M c s) := (propext (mv_R_iff (i := .iload_n 2) (len := 1) (ax := []) (by decide +kernel))).trans (q_ldI_eq (K := fun st => mr183 S P 20 L st sh M c s))
theorem e183_20 {y : Int32} {x : Int32} : mr183 S P 20 L (.int y :: .int x :: st) sh M c s = (mr183 S P 21 L (.int (x + y) :: st) sh M c s) := propext (mv_R_iff (i := .iadd) (len := 1) (ax := []) (by decide +kernel))
theorem e183_21 {i : Int32} {a : Nat} : mr183 S P 21 L (.int i :: .ref a :: st) sh M c s = (mv_kld sh M a i (mr183 S P) 22 L st c s) := propext (mv_R_iff (i := .iaload) (len := 1) (ax := []) (by decide +kernel))
theorem e183_22 : mr183 S P 22 L st sh M c s = (mr183 S P 23 L (.int (nI 3) :: st) sh M c s) := propext (mv_R_iff (i := .iconst 3) (len := 1) (ax := []) (by decide +kernel))
theorem e183_23 {y : Int32} {x : Int32} : mr183 S P 23 L (.int y :: .int x :: st) sh M c s = (if x ≤ y then mr183 S P 30 L st sh M c s else mr183 S P 26 L st sh M c s) := (propext (mv_R_iff (i := .if_icmp .le 7) (len := 3) (ax := [30]) (by decide +kernel))).trans (q_br)
theorem e183_26 : mr183 S P 26 L st sh M c s = (mr183 S P 27 L (.int (nI 1) :: st) sh M c s) := propext (mv_R_iff (i := .iconst 1) (len := 1) (ax := []) (by decide +kernel))
theorem e183_27 : mr183 S P 27 L st sh M c s = (mr183 S P 31 L st sh M c s) := propext (mv_R_iff (i := .goto 4) (len := 3) (ax := [31]) (by decide +kernel))
theorem e183_30 : mr183 S P 30 L st sh M c s = (mr183 S P 31 L (.int (nI 0) :: st) sh M c s) := propext (mv_R_iff (i := .iconst 0) (len := 1) (ax := []) (by decide +kernel))
theorem e183_31 {y : Int32} {x : Int32} : mr183 S P 31 L (.int y :: .int x :: st) sh M c s = (mr183 S P 32 L (.int (x + y) :: st) sh M c s) := propext (mv_R_iff (i := .iadd) (len := 1) (ax := []) (by decide +kernel))
theorem e183_32 {x : Int32} : mr183 S P 32 L (.int x :: st) sh M c s = (q_hs L 1 ∧ mr183 S P 33 (L.set 1 (some (.int x))) st sh M c s) := (propext (mv_R_iff (i := .istore_n 1) (len := 1) (ax := []) (by decide +kernel))).trans (q_st_eq (K := fun L => mr183 S P 33 L st sh M c s))
theorem e183_33 : mr183 S P 33 L st sh M c s = ((q_isI (q_gv L 2) ∧ q_hs L 2) ∧ mr183 S P 36 (L.set 2 (some (q_inc (q_gv L 2) (nI 1)))) st sh M c s) := (propext (mv_R_iff (i := .iinc 2 1) (len := 3) (ax := []) (by decide +kernel))).trans (q_inc_eq (K := fun L => mr183 S P 36 L st sh M c s))
theorem e183_36 : mr183 S P 36 L st sh M c s = (mr183 S P 4 L st sh M c s) := propext (mv_R_iff (i := .goto (-32)) (len := 3) (ax := [4]) (by decide +kernel))
theorem e183_39 : mr183 S P 39 L st sh M c s = (q_isI (q_gv L 1) ∧ mr183 S P 40 L (q_gv L 1 :: st) sh M c s) := (propext (mv_R_iff (i := .iload_n 1) (len := 1) (ax := []) (by decide +kernel))).trans (q_ldI_eq (K := fun st => mr183 S P 40 L st sh M c s))
theorem e183_40 {x : Int32} : mr183 S P 40 L [.int x] sh M c s = (mv_nr 0 x ∧ P (some (.int x)) sh M) := propext (mv_R_iff (i := .ireturn) (len := 1) (ax := [0]) (by decide +kernel))
-- 184: TurnedTabletsModel.count(I)I
def mk184 : mv_Cd := [
  (0, .iload_n 1, 1, []),
  (1, .tableswitch 108 0 9 #[55, 60, 65, 70, 75, 83, 88, 93, 98, 103], 55, [109, 56, 61, 66, 71, 76, 84, 89, 94, 99, 104]),
  (56, .aload_n 0, 1, []),
  (57, .getfield 151, 3, [1028, 0, 5, 3]),
  (60, .ireturn, 1, [0]),
  (61, .aload_n 0, 1, []),
  (62, .getfield 154, 3, [1032, 0, 5, 7]),
  (65, .ireturn, 1, [0]),
  (66, .aload_n 0, 1, []),
  (67, .getfield 160, 3, [1035, 0, 5, 10]),
  (70, .ireturn, 1, [0]),
  (71, .aload_n 0, 1, []),
  (72, .getfield 157, 3, [1034, 0, 5, 9]),
  (75, .ireturn, 1, [0]),
  (76, .aload_n 0, 1, []),
  (77, .getfield 7, 3, [1025, 0, 5, 0]),
  (80, .bipush 30, 2, []),
  (82, .iaload, 1, []),
  (83, .ireturn, 1, [0]),
  (84, .aload_n 0, 1, []),
  (85, .invokevirtual 276, 3, [0, 183, 1, 5, 0, 0, 0, 1387, 1389, 102, 119, 1390]),
  (88, .ireturn, 1, [0]),
  (89, .aload_n 0, 1, []),
  (90, .getfield 169, 3, [1039, 0, 5, 14]),
  (93, .ireturn, 1, [0]),
  (94, .aload_n 0, 1, []),
  (95, .getfield 163, 3, [1026, 0, 5, 1]),
  (98, .ireturn, 1, [0]),
  (99, .aload_n 0, 1, []),
  (100, .getfield 166, 3, [1027, 0, 5, 2]),
  (103, .ireturn, 1, [0]),
  (104, .aload_n 0, 1, []),
  (105, .getfield 80, 3, [1038, 0, 5, 13]),
  (108, .ireturn, 1, [0]),
  (109, .iconst (-1), 1, []),
  (110, .ireturn, 1, [0])]
def mr184 (S : Nat → mv_Sp) (P : mv_Post) : mv_Kt := mv_R mv_DF mk184 S (0, 0) P
theorem e184_0 : mr184 S P 0 L st sh M c s = (q_isI (q_gv L 1) ∧ mr184 S P 1 L (q_gv L 1 :: st) sh M c s) := (propext (mv_R_iff (i := .iload_n 1) (len := 1) (ax := []) (by decide +kernel))).trans (q_ldI_eq (K := fun st => mr184 S P 1 L st sh M c s))
theorem e184_1 {x : Int32} : mr184 S P 1 L (.int x :: st) sh M c s = (if x = (nI 0) then mr184 S P 56 L st sh M c s else if x = (nI 1) then mr184 S P 61 L st sh M c s else if x = (nI 2) then mr184 S P 66 L st sh M c s else if x = (nI 3) then mr184 S P 71 L st sh M c s else if x = (nI 4) then mr184 S P 76 L st sh M c s else if x = (nI 5) then mr184 S P 84 L st sh M c s else if x = (nI 6) then mr184 S P 89 L st sh M c s else if x = (nI 7) then mr184 S P 94 L st sh M c s else if x = (nI 8) then mr184 S P 99 L st sh M c s else if x = (nI 9) then mr184 S P 104 L st sh M c s else mr184 S P 109 L st sh M c s) := (propext (mv_R_iff (i := .tableswitch 108 0 9 #[55, 60, 65, 70, 75, 83, 88, 93, 98, 103]) (len := 55) (ax := [109, 56, 61, 66, 71, 76, 84, 89, 94, 99, 104]) (by decide +kernel))).trans (q_sw10)
theorem e184_56 : mr184 S P 56 L st sh M c s = (q_isA (q_gv L 0) ∧ mr184 S P 57 L (q_gv L 0 :: st) sh M c s) := (propext (mv_R_iff (i := .aload_n 0) (len := 1) (ax := []) (by decide +kernel))).trans (q_ldA_eq (K := fun st => mr184 S P 57 L st sh M c s))
theorem e184_57 {a : Nat} : mr184 S P 57 L (.ref a :: st) sh M c s = (mv_kgf sh M a 5 3 (mr184 S P) 60 L st c s) := propext (mv_R_iff (i := .getfield 151) (len := 3) (ax := [1028, 0, 5, 3]) (by decide +kernel))
theorem e184_60 {x : Int32} : mr184 S P 60 L [.int x] sh M c s = (mv_nr 0 x ∧ P (some (.int x)) sh M) := propext (mv_R_iff (i := .ireturn) (len := 1) (ax := [0]) (by decide +kernel))
theorem e184_61 : mr184 S P 61 L st sh M c s = (q_isA (q_gv L 0) ∧ mr184 S P 62 L (q_gv L 0 :: st) sh M c s) := (propext (mv_R_iff (i := .aload_n 0) (len := 1) (ax := []) (by decide +kernel))).trans (q_ldA_eq (K := fun st => mr184 S P 62 L st sh M c s))
theorem e184_62 {a : Nat} : mr184 S P 62 L (.ref a :: st) sh M c s = (mv_kgf sh M a 5 7 (mr184 S P) 65 L st c s) := propext (mv_R_iff (i := .getfield 154) (len := 3) (ax := [1032, 0, 5, 7]) (by decide +kernel))
theorem e184_65 {x : Int32} : mr184 S P 65 L [.int x] sh M c s = (mv_nr 0 x ∧ P (some (.int x)) sh M) := propext (mv_R_iff (i := .ireturn) (len := 1) (ax := [0]) (by decide +kernel))
theorem e184_66 : mr184 S P 66 L st sh M c s = (q_isA (q_gv L 0) ∧ mr184 S P 67 L (q_gv L 0 :: st) sh M c s) := (propext (mv_R_iff (i := .aload_n 0) (len := 1) (ax := []) (by decide +kernel))).trans (q_ldA_eq (K := fun st => mr184 S P 67 L st sh M c s))
theorem e184_67 {a : Nat} : mr184 S P 67 L (.ref a :: st) sh M c s = (mv_kgf sh M a 5 10 (mr184 S P) 70 L st c s) := propext (mv_R_iff (i := .getfield 160) (len := 3) (ax := [1035, 0, 5, 10]) (by decide +kernel))
theorem e184_70 {x : Int32} : mr184 S P 70 L [.int x] sh M c s = (mv_nr 0 x ∧ P (some (.int x)) sh M) := propext (mv_R_iff (i := .ireturn) (len := 1) (ax := [0]) (by decide +kernel))
theorem e184_71 : mr184 S P 71 L st sh M c s = (q_isA (q_gv L 0) ∧ mr184 S P 72 L (q_gv L 0 :: st) sh M c s) := (propext (mv_R_iff (i := .aload_n 0) (len := 1) (ax := []) (by decide +kernel))).trans (q_ldA_eq (K := fun st => mr184 S P 72 L st sh M c s))
theorem e184_72 {a : Nat} : mr184 S P 72 L (.ref a :: st) sh M c s = (mv_kgf sh M a 5 9 (mr184 S P) 75 L st c s) := propext (mv_R_iff (i := .getfield 157) (len := 3) (ax := [1034, 0, 5, 9]) (by decide +kernel))
theorem e184_75 {x : Int32} : mr184 S P 75 L [.int x] sh M c s = (mv_nr 0 x ∧ P (some (.int x)) sh M) := propext (mv_R_iff (i := .ireturn) (len := 1) (ax := [0]) (by decide +kernel))
theorem e184_76 : mr184 S P 76 L st sh M c s = (q_isA (q_gv L 0) ∧ mr184 S P 77 L (q_gv L 0 :: st) sh M c s) := (propext (mv_R_iff (i := .aload_n 0) (len := 1) (ax := []) (by decide +kernel))).trans (q_ldA_eq (K := fun st => mr184 S P 77 L st sh M c s))
theorem e184_77 {a : Nat} : mr184 S P 77 L (.ref a :: st) sh M c s = (mv_kgf sh M a 5 0 (mr184 S P) 80 L st c s) := propext (mv_R_iff (i := .getfield 7) (len := 3) (ax := [1025, 0, 5, 0]) (by decide +kernel))
theorem e184_80 : mr184 S P 80 L st sh M c s = (mr184 S P 82 L (.int (nI 30) :: st) sh M c s) := propext (mv_R_iff (i := .bipush 30) (len := 2) (ax := []) (by decide +kernel))
theorem e184_82 {i : Int32} {a : Nat} : mr184 S P 82 L (.int i :: .ref a :: st) sh M c s = (mv_kld sh M a i (mr184 S P) 83 L st c s) := propext (mv_R_iff (i := .iaload) (len := 1) (ax := []) (by decide +kernel))
theorem e184_83 {x : Int32} : mr184 S P 83 L [.int x] sh M c s = (mv_nr 0 x ∧ P (some (.int x)) sh M) := propext (mv_R_iff (i := .ireturn) (len := 1) (ax := [0]) (by decide +kernel))
theorem e184_84 : mr184 S P 84 L st sh M c s = (q_isA (q_gv L 0) ∧ mr184 S P 85 L (q_gv L 0 :: st) sh M c s) := (propext (mv_R_iff (i := .aload_n 0) (len := 1) (ax := []) (by decide +kernel))).trans (q_ldA_eq (K := fun st => mr184 S P 85 L st sh M c s))
theorem e184_85 {v1 : Value} : mr184 S P 85 L (v1 :: st) sh M c s = (mv_ss st ≤ 8 ∧ c ≤ 0 ∧ s ≤ 0 ∧ mv_isO sh (some v1) 5 ∧ mv_kal S 183 [v1] sh M (mr184 S P) 88 L st c s) := (propext (mv_R_iff (i := .invokevirtual 276) (len := 3) (ax := [0, 183, 1, 5, 0, 0, 0, 1387, 1389, 102, 119, 1390]) (by decide +kernel))).trans (q_call0)
theorem e184_88 {x : Int32} : mr184 S P 88 L [.int x] sh M c s = (mv_nr 0 x ∧ P (some (.int x)) sh M) := propext (mv_R_iff (i := .ireturn) (len := 1) (ax := [0]) (by decide +kernel))
theorem e184_89 : mr184 S P 89 L st sh M c s = (q_isA (q_gv L 0) ∧ mr184 S P 90 L (q_gv L 0 :: st) sh M c s) := (propext (mv_R_iff (i := .aload_n 0) (len := 1) (ax := []) (by decide +kernel))).trans (q_ldA_eq (K := fun st => mr184 S P 90 L st sh M c s))
theorem e184_90 {a : Nat} : mr184 S P 90 L (.ref a :: st) sh M c s = (mv_kgf sh M a 5 14 (mr184 S P) 93 L st c s) := propext (mv_R_iff (i := .getfield 169) (len := 3) (ax := [1039, 0, 5, 14]) (by decide +kernel))
theorem e184_93 {x : Int32} : mr184 S P 93 L [.int x] sh M c s = (mv_nr 0 x ∧ P (some (.int x)) sh M) := propext (mv_R_iff (i := .ireturn) (len := 1) (ax := [0]) (by decide +kernel))
theorem e184_94 : mr184 S P 94 L st sh M c s = (q_isA (q_gv L 0) ∧ mr184 S P 95 L (q_gv L 0 :: st) sh M c s) := (propext (mv_R_iff (i := .aload_n 0) (len := 1) (ax := []) (by decide +kernel))).trans (q_ldA_eq (K := fun st => mr184 S P 95 L st sh M c s))
theorem e184_95 {a : Nat} : mr184 S P 95 L (.ref a :: st) sh M c s = (mv_kgf sh M a 5 1 (mr184 S P) 98 L st c s) := propext (mv_R_iff (i := .getfield 163) (len := 3) (ax := [1026, 0, 5, 1]) (by decide +kernel))
theorem e184_98 {x : Int32} : mr184 S P 98 L [.int x] sh M c s = (mv_nr 0 x ∧ P (some (.int x)) sh M) := propext (mv_R_iff (i := .ireturn) (len := 1) (ax := [0]) (by decide +kernel))
theorem e184_99 : mr184 S P 99 L st sh M c s = (q_isA (q_gv L 0) ∧ mr184 S P 100 L (q_gv L 0 :: st) sh M c s) := (propext (mv_R_iff (i := .aload_n 0) (len := 1) (ax := []) (by decide +kernel))).trans (q_ldA_eq (K := fun st => mr184 S P 100 L st sh M c s))
theorem e184_100 {a : Nat} : mr184 S P 100 L (.ref a :: st) sh M c s = (mv_kgf sh M a 5 2 (mr184 S P) 103 L st c s) := propext (mv_R_iff (i := .getfield 166) (len := 3) (ax := [1027, 0, 5, 2]) (by decide +kernel))
theorem e184_103 {x : Int32} : mr184 S P 103 L [.int x] sh M c s = (mv_nr 0 x ∧ P (some (.int x)) sh M) := propext (mv_R_iff (i := .ireturn) (len := 1) (ax := [0]) (by decide +kernel))
theorem e184_104 : mr184 S P 104 L st sh M c s = (q_isA (q_gv L 0) ∧ mr184 S P 105 L (q_gv L 0 :: st) sh M c s) := (propext (mv_R_iff (i := .aload_n 0) (len := 1) (ax := []) (by decide +kernel))).trans (q_ldA_eq (K := fun st => mr184 S P 105 L st sh M c s))
theorem e184_105 {a : Nat} : mr184 S P 105 L (.ref a :: st) sh M c s = (mv_kgf sh M a 5 13 (mr184 S P) 108 L st c s) := propext (mv_R_iff (i := .getfield 80) (len := 3) (ax := [1038, 0, 5, 13]) (by decide +kernel))
theorem e184_108 {x : Int32} : mr184 S P 108 L [.int x] sh M c s = (mv_nr 0 x ∧ P (some (.int x)) sh M) := propext (mv_R_iff (i := .ireturn) (len := 1) (ax := [0]) (by decide +kernel))
theorem e184_109 : mr184 S P 109 L st sh M c s = (mr184 S P 110 L (.int (Int32.ofInt (-1)) :: st) sh M c s) := propext (mv_R_iff (i := .iconst (-1)) (len := 1) (ax := []) (by decide +kernel))
theorem e184_110 {x : Int32} : mr184 S P 110 L [.int x] sh M c s = (mv_nr 0 x ∧ P (some (.int x)) sh M) := propext (mv_R_iff (i := .ireturn) (len := 1) (ax := [0]) (by decide +kernel))
-- 185: TurnedTabletsModel.cut()I
def mk185 : mv_Cd := [
  (0, .aload_n 0, 1, []),
  (1, .invokevirtual 212, 3, [0, 157, 1, 5, 0, 0, 0, 1211, 1213, 84, 119, 1214]),
  (4, .aload_n 0, 1, []),
  (5, .getfield 7, 3, [1025, 0, 5, 0]),
  (8, .bipush 30, 2, []),
  (10, .iaload, 1, []),
  (11, .istore_n 1, 1, []),
  (12, .aload_n 0, 1, []),
  (13, .getfield 7, 3, [1025, 0, 5, 0]),
  (16, .bipush 30, 2, []),
  (18, .iconst 0, 1, []),
  (19, .iastore, 1, []),
  (20, .iload_n 1, 1, []),
  (21, .ireturn, 1, [0])]
def mr185 (S : Nat → mv_Sp) (P : mv_Post) : mv_Kt := mv_R mv_DF mk185 S (0, 0) P
theorem e185_0 : mr185 S P 0 L st sh M c s = (q_isA (q_gv L 0) ∧ mr185 S P 1 L (q_gv L 0 :: st) sh M c s) := (propext (mv_R_iff (i := .aload_n 0) (len := 1) (ax := []) (by decide +kernel))).trans (q_ldA_eq (K := fun st => mr185 S P 1 L st sh M c s))
theorem e185_1 {v1 : Value} : mr185 S P 1 L (v1 :: st) sh M c s = (mv_ss st ≤ 8 ∧ c ≤ 0 ∧ s ≤ 0 ∧ mv_isO sh (some v1) 5 ∧ mv_kal S 157 [v1] sh M (mr185 S P) 4 L st c s) := (propext (mv_R_iff (i := .invokevirtual 212) (len := 3) (ax := [0, 157, 1, 5, 0, 0, 0, 1211, 1213, 84, 119, 1214]) (by decide +kernel))).trans (q_call0)
theorem e185_4 : mr185 S P 4 L st sh M c s = (q_isA (q_gv L 0) ∧ mr185 S P 5 L (q_gv L 0 :: st) sh M c s) := (propext (mv_R_iff (i := .aload_n 0) (len := 1) (ax := []) (by decide +kernel))).trans (q_ldA_eq (K := fun st => mr185 S P 5 L st sh M c s))
theorem e185_5 {a : Nat} : mr185 S P 5 L (.ref a :: st) sh M c s = (mv_kgf sh M a 5 0 (mr185 S P) 8 L st c s) := propext (mv_R_iff (i := .getfield 7) (len := 3) (ax := [1025, 0, 5, 0]) (by decide +kernel))
theorem e185_8 : mr185 S P 8 L st sh M c s = (mr185 S P 10 L (.int (nI 30) :: st) sh M c s) := propext (mv_R_iff (i := .bipush 30) (len := 2) (ax := []) (by decide +kernel))
theorem e185_10 {i : Int32} {a : Nat} : mr185 S P 10 L (.int i :: .ref a :: st) sh M c s = (mv_kld sh M a i (mr185 S P) 11 L st c s) := propext (mv_R_iff (i := .iaload) (len := 1) (ax := []) (by decide +kernel))
theorem e185_11 {x : Int32} : mr185 S P 11 L (.int x :: st) sh M c s = (q_hs L 1 ∧ mr185 S P 12 (L.set 1 (some (.int x))) st sh M c s) := (propext (mv_R_iff (i := .istore_n 1) (len := 1) (ax := []) (by decide +kernel))).trans (q_st_eq (K := fun L => mr185 S P 12 L st sh M c s))
theorem e185_12 : mr185 S P 12 L st sh M c s = (q_isA (q_gv L 0) ∧ mr185 S P 13 L (q_gv L 0 :: st) sh M c s) := (propext (mv_R_iff (i := .aload_n 0) (len := 1) (ax := []) (by decide +kernel))).trans (q_ldA_eq (K := fun st => mr185 S P 13 L st sh M c s))
theorem e185_13 {a : Nat} : mr185 S P 13 L (.ref a :: st) sh M c s = (mv_kgf sh M a 5 0 (mr185 S P) 16 L st c s) := propext (mv_R_iff (i := .getfield 7) (len := 3) (ax := [1025, 0, 5, 0]) (by decide +kernel))
theorem e185_16 : mr185 S P 16 L st sh M c s = (mr185 S P 18 L (.int (nI 30) :: st) sh M c s) := propext (mv_R_iff (i := .bipush 30) (len := 2) (ax := []) (by decide +kernel))
theorem e185_18 : mr185 S P 18 L st sh M c s = (mr185 S P 19 L (.int (nI 0) :: st) sh M c s) := propext (mv_R_iff (i := .iconst 0) (len := 1) (ax := []) (by decide +kernel))
theorem e185_19 {x : Int32} {i : Int32} {a : Nat} : mr185 S P 19 L (.int x :: .int i :: .ref a :: st) sh M c s = (mv_kst sh M a i x (mr185 S P) 20 L st c s) := propext (mv_R_iff (i := .iastore) (len := 1) (ax := []) (by decide +kernel))
theorem e185_20 : mr185 S P 20 L st sh M c s = (q_isI (q_gv L 1) ∧ mr185 S P 21 L (q_gv L 1 :: st) sh M c s) := (propext (mv_R_iff (i := .iload_n 1) (len := 1) (ax := []) (by decide +kernel))).trans (q_ldI_eq (K := fun st => mr185 S P 21 L st sh M c s))
theorem e185_21 {x : Int32} : mr185 S P 21 L [.int x] sh M c s = (mv_nr 0 x ∧ P (some (.int x)) sh M) := propext (mv_R_iff (i := .ireturn) (len := 1) (ax := [0]) (by decide +kernel))
-- 186: TurnedTabletsModel.draft(I)I
def mk186 : mv_Cd := [
  (0, .iload_n 1, 1, []),
  (1, .ifCond .ge 7, 3, [8]),
  (4, .iconst (-1), 1, []),
  (5, .goto 22, 3, [27]),
  (8, .iload_n 1, 1, []),
  (9, .aload_n 0, 1, []),
  (10, .getfield 160, 3, [1035, 0, 5, 10]),
  (13, .if_icmp .ge 12, 3, [25]),
  (16, .aload_n 0, 1, []),
  (17, .getfield 25, 3, [1036, 0, 5, 11]),
  (20, .iload_n 1, 1, []),
  (21, .iaload, 1, []),
  (22, .goto 5, 3, [27]),
  (25, .bipush (-4), 2, []),
  (27, .ireturn, 1, [0])]
def mr186 (S : Nat → mv_Sp) (P : mv_Post) : mv_Kt := mv_R mv_DF mk186 S (0, 0) P
theorem e186_0 : mr186 S P 0 L st sh M c s = (q_isI (q_gv L 1) ∧ mr186 S P 1 L (q_gv L 1 :: st) sh M c s) := (propext (mv_R_iff (i := .iload_n 1) (len := 1) (ax := []) (by decide +kernel))).trans (q_ldI_eq (K := fun st => mr186 S P 1 L st sh M c s))
theorem e186_1 {x : Int32} : mr186 S P 1 L (.int x :: st) sh M c s = (if nI 0 ≤ x then mr186 S P 8 L st sh M c s else mr186 S P 4 L st sh M c s) := (propext (mv_R_iff (i := .ifCond .ge 7) (len := 3) (ax := [8]) (by decide +kernel))).trans (q_br)
theorem e186_4 : mr186 S P 4 L st sh M c s = (mr186 S P 5 L (.int (Int32.ofInt (-1)) :: st) sh M c s) := propext (mv_R_iff (i := .iconst (-1)) (len := 1) (ax := []) (by decide +kernel))
theorem e186_5 : mr186 S P 5 L st sh M c s = (mr186 S P 27 L st sh M c s) := propext (mv_R_iff (i := .goto 22) (len := 3) (ax := [27]) (by decide +kernel))
theorem e186_8 : mr186 S P 8 L st sh M c s = (q_isI (q_gv L 1) ∧ mr186 S P 9 L (q_gv L 1 :: st) sh M c s) := (propext (mv_R_iff (i := .iload_n 1) (len := 1) (ax := []) (by decide +kernel))).trans (q_ldI_eq (K := fun st => mr186 S P 9 L st sh M c s))
theorem e186_9 : mr186 S P 9 L st sh M c s = (q_isA (q_gv L 0) ∧ mr186 S P 10 L (q_gv L 0 :: st) sh M c s) := (propext (mv_R_iff (i := .aload_n 0) (len := 1) (ax := []) (by decide +kernel))).trans (q_ldA_eq (K := fun st => mr186 S P 10 L st sh M c s))
theorem e186_10 {a : Nat} : mr186 S P 10 L (.ref a :: st) sh M c s = (mv_kgf sh M a 5 10 (mr186 S P) 13 L st c s) := propext (mv_R_iff (i := .getfield 160) (len := 3) (ax := [1035, 0, 5, 10]) (by decide +kernel))
theorem e186_13 {y : Int32} {x : Int32} : mr186 S P 13 L (.int y :: .int x :: st) sh M c s = (if y ≤ x then mr186 S P 25 L st sh M c s else mr186 S P 16 L st sh M c s) := (propext (mv_R_iff (i := .if_icmp .ge 12) (len := 3) (ax := [25]) (by decide +kernel))).trans (q_br)
theorem e186_16 : mr186 S P 16 L st sh M c s = (q_isA (q_gv L 0) ∧ mr186 S P 17 L (q_gv L 0 :: st) sh M c s) := (propext (mv_R_iff (i := .aload_n 0) (len := 1) (ax := []) (by decide +kernel))).trans (q_ldA_eq (K := fun st => mr186 S P 17 L st sh M c s))
theorem e186_17 {a : Nat} : mr186 S P 17 L (.ref a :: st) sh M c s = (mv_kgf sh M a 5 11 (mr186 S P) 20 L st c s) := propext (mv_R_iff (i := .getfield 25) (len := 3) (ax := [1036, 0, 5, 11]) (by decide +kernel))
theorem e186_20 : mr186 S P 20 L st sh M c s = (q_isI (q_gv L 1) ∧ mr186 S P 21 L (q_gv L 1 :: st) sh M c s) := (propext (mv_R_iff (i := .iload_n 1) (len := 1) (ax := []) (by decide +kernel))).trans (q_ldI_eq (K := fun st => mr186 S P 21 L st sh M c s))
theorem e186_21 {i : Int32} {a : Nat} : mr186 S P 21 L (.int i :: .ref a :: st) sh M c s = (mv_kld sh M a i (mr186 S P) 22 L st c s) := propext (mv_R_iff (i := .iaload) (len := 1) (ax := []) (by decide +kernel))
theorem e186_22 : mr186 S P 22 L st sh M c s = (mr186 S P 27 L st sh M c s) := propext (mv_R_iff (i := .goto 5) (len := 3) (ax := [27]) (by decide +kernel))
theorem e186_25 : mr186 S P 25 L st sh M c s = (mr186 S P 27 L (.int (Int32.ofInt (-4)) :: st) sh M c s) := (propext (mv_R_iff (i := .bipush (-4)) (len := 2) (ax := []) (by decide +kernel))).trans (congrArg (fun z => mr186 S P 27 L (.int z :: st) sh M c s) (by decide : (Int8.ofInt (-4)).toInt32 = Int32.ofInt (-4)))
theorem e186_27 {x : Int32} : mr186 S P 27 L [.int x] sh M c s = (mv_nr 0 x ∧ P (some (.int x)) sh M) := propext (mv_R_iff (i := .ireturn) (len := 1) (ax := [0]) (by decide +kernel))
-- 187: TurnedTabletsModel.fault()I
def mk187 : mv_Cd := [
  (0, .aload_n 0, 1, []),
  (1, .invokevirtual 148, 3, [0, 153, 1, 5, 0, 0, 0, 981, 983, 70, 119, 984]),
  (4, .ireturn, 1, [0])]
def mr187 (S : Nat → mv_Sp) (P : mv_Post) : mv_Kt := mv_R mv_DF mk187 S (0, 0) P
theorem e187_0 : mr187 S P 0 L st sh M c s = (q_isA (q_gv L 0) ∧ mr187 S P 1 L (q_gv L 0 :: st) sh M c s) := (propext (mv_R_iff (i := .aload_n 0) (len := 1) (ax := []) (by decide +kernel))).trans (q_ldA_eq (K := fun st => mr187 S P 1 L st sh M c s))
theorem e187_1 {v1 : Value} : mr187 S P 1 L (v1 :: st) sh M c s = (mv_ss st ≤ 8 ∧ c ≤ 0 ∧ s ≤ 0 ∧ mv_isO sh (some v1) 5 ∧ mv_kal S 153 [v1] sh M (mr187 S P) 4 L st c s) := (propext (mv_R_iff (i := .invokevirtual 148) (len := 3) (ax := [0, 153, 1, 5, 0, 0, 0, 981, 983, 70, 119, 984]) (by decide +kernel))).trans (q_call0)
theorem e187_4 {x : Int32} : mr187 S P 4 L [.int x] sh M c s = (mv_nr 0 x ∧ P (some (.int x)) sh M) := propext (mv_R_iff (i := .ireturn) (len := 1) (ax := [0]) (by decide +kernel))
-- 188: TurnedTabletsModel.fewest(II)I
def mk188 : mv_Cd := [
  (0, .aload_n 0, 1, []),
  (1, .iload_n 1, 1, []),
  (2, .invokevirtual 243, 3, [0, 167, 2, 5, 0, 0, 0, 1287, 1289, 92, 119, 1290]),
  (5, .ifCond .eq 8, 3, [13]),
  (8, .iload_n 2, 1, []),
  (9, .iconst (-1), 1, []),
  (10, .if_icmp .ge 5, 3, [15]),
  (13, .iconst (-1), 1, []),
  (14, .ireturn, 1, [0]),
  (15, .aload_n 0, 1, []),
  (16, .invokevirtual 246, 3, [0, 169, 1, 5, 0, 0, 0, 1291, 1293, 93, 119, 1294]),
  (19, .aload_n 0, 1, []),
  (20, .iload_n 1, 1, []),
  (21, .aload_n 0, 1, []),
  (22, .invokevirtual 249, 3, [0, 176, 1, 5, 0, 0, 0, 1299, 1301, 95, 119, 1302]),
  (25, .invokevirtual 252, 3, [0, 179, 3, 5, 0, 0, 0, 1303, 1305, 96, 119, 1306]),
  (28, .istore_n 3, 1, []),
  (29, .iload_n 3, 1, []),
  (30, .bipush (-4), 2, []),
  (32, .if_icmp .ne 6, 3, [38]),
  (35, .bipush (-4), 2, []),
  (37, .ireturn, 1, [0]),
  (38, .iconst 0, 1, []),
  (39, .istore 4, 2, []),
  (41, .iload_n 3, 1, []),
  (42, .istore 5, 2, []),
  (44, .aload_n 0, 1, []),
  (45, .getfield 65, 3, [1058, 0, 5, 33]),
  (48, .iload 5, 2, []),
  (50, .iaload, 1, []),
  (51, .bipush (-4), 2, []),
  (53, .if_icmp .eq 18, 3, [71]),
  (56, .iinc 4 1, 3, []),
  (59, .aload_n 0, 1, []),
  (60, .getfield 65, 3, [1058, 0, 5, 33]),
  (63, .iload 5, 2, []),
  (65, .iaload, 1, []),
  (66, .istore 5, 2, []),
  (68, .goto (-24), 3, [44]),
  (71, .iload_n 2, 1, []),
  (72, .ifCond .lt 9, 3, [81]),
  (75, .iload_n 2, 1, []),
  (76, .iload 4, 2, []),
  (78, .if_icmp .lt 15, 3, [93]),
  (81, .iload_n 2, 1, []),
  (82, .ifCond .ge 8, 3, [90]),
  (85, .iload 4, 2, []),
  (87, .goto 5, 3, [92]),
  (90, .bipush (-4), 2, []),
  (92, .ireturn, 1, [0]),
  (93, .iload_n 3, 1, []),
  (94, .istore 5, 2, []),
  (96, .iload 4, 2, []),
  (98, .iconst 1, 1, []),
  (99, .isub, 1, []),
  (100, .istore 6, 2, []),
  (102, .iload 6, 2, []),
  (104, .iload_n 2, 1, []),
  (105, .if_icmp .le 18, 3, [123]),
  (108, .aload_n 0, 1, []),
  (109, .getfield 65, 3, [1058, 0, 5, 33]),
  (112, .iload 5, 2, []),
  (114, .iaload, 1, []),
  (115, .istore 5, 2, []),
  (117, .iinc 6 (-1), 3, []),
  (120, .goto (-18), 3, [102]),
  (123, .bipush 10, 2, []),
  (125, .aload_n 0, 1, []),
  (126, .getfield 68, 3, [1059, 0, 5, 34]),
  (129, .iload 5, 2, []),
  (131, .iaload, 1, []),
  (132, .iconst 2, 1, []),
  (133, .idiv, 1, []),
  (134, .imul, 1, []),
  (135, .aload_n 0, 1, []),
  (136, .getfield 68, 3, [1059, 0, 5, 34]),
  (139, .iload 5, 2, []),
  (141, .iaload, 1, []),
  (142, .iconst 2, 1, []),
  (143, .irem, 1, []),
  (144, .iadd, 1, []),
  (145, .ireturn, 1, [0])]
def mr188 (S : Nat → mv_Sp) (P : mv_Post) : mv_Kt := mv_R mv_DF mk188 S (0, 0) P
theorem e188_0 : mr188 S P 0 L st sh M c s = (q_isA (q_gv L 0) ∧ mr188 S P 1 L (q_gv L 0 :: st) sh M c s) := (propext (mv_R_iff (i := .aload_n 0) (len := 1) (ax := []) (by decide +kernel))).trans (q_ldA_eq (K := fun st => mr188 S P 1 L st sh M c s))
theorem e188_1 : mr188 S P 1 L st sh M c s = (q_isI (q_gv L 1) ∧ mr188 S P 2 L (q_gv L 1 :: st) sh M c s) := (propext (mv_R_iff (i := .iload_n 1) (len := 1) (ax := []) (by decide +kernel))).trans (q_ldI_eq (K := fun st => mr188 S P 2 L st sh M c s))
theorem e188_2 {v2 : Value} {v1 : Value} : mr188 S P 2 L (v2 :: v1 :: st) sh M c s = (mv_ss st ≤ 8 ∧ c ≤ 0 ∧ s ≤ 0 ∧ mv_isO sh (some v1) 5 ∧ mv_kal S 167 [v1, v2] sh M (mr188 S P) 5 L st c s) := (propext (mv_R_iff (i := .invokevirtual 243) (len := 3) (ax := [0, 167, 2, 5, 0, 0, 0, 1287, 1289, 92, 119, 1290]) (by decide +kernel))).trans (q_call0)
theorem e188_5 {x : Int32} : mr188 S P 5 L (.int x :: st) sh M c s = (if x = nI 0 then mr188 S P 13 L st sh M c s else mr188 S P 8 L st sh M c s) := (propext (mv_R_iff (i := .ifCond .eq 8) (len := 3) (ax := [13]) (by decide +kernel))).trans (q_br)
theorem e188_8 : mr188 S P 8 L st sh M c s = (q_isI (q_gv L 2) ∧ mr188 S P 9 L (q_gv L 2 :: st) sh M c s) := (propext (mv_R_iff (i := .iload_n 2) (len := 1) (ax := []) (by decide +kernel))).trans (q_ldI_eq (K := fun st => mr188 S P 9 L st sh M c s))
theorem e188_9 : mr188 S P 9 L st sh M c s = (mr188 S P 10 L (.int (Int32.ofInt (-1)) :: st) sh M c s) := propext (mv_R_iff (i := .iconst (-1)) (len := 1) (ax := []) (by decide +kernel))
theorem e188_10 {y : Int32} {x : Int32} : mr188 S P 10 L (.int y :: .int x :: st) sh M c s = (if y ≤ x then mr188 S P 15 L st sh M c s else mr188 S P 13 L st sh M c s) := (propext (mv_R_iff (i := .if_icmp .ge 5) (len := 3) (ax := [15]) (by decide +kernel))).trans (q_br)
theorem e188_13 : mr188 S P 13 L st sh M c s = (mr188 S P 14 L (.int (Int32.ofInt (-1)) :: st) sh M c s) := propext (mv_R_iff (i := .iconst (-1)) (len := 1) (ax := []) (by decide +kernel))
theorem e188_14 {x : Int32} : mr188 S P 14 L [.int x] sh M c s = (mv_nr 0 x ∧ P (some (.int x)) sh M) := propext (mv_R_iff (i := .ireturn) (len := 1) (ax := [0]) (by decide +kernel))
theorem e188_15 : mr188 S P 15 L st sh M c s = (q_isA (q_gv L 0) ∧ mr188 S P 16 L (q_gv L 0 :: st) sh M c s) := (propext (mv_R_iff (i := .aload_n 0) (len := 1) (ax := []) (by decide +kernel))).trans (q_ldA_eq (K := fun st => mr188 S P 16 L st sh M c s))
theorem e188_16 {v1 : Value} : mr188 S P 16 L (v1 :: st) sh M c s = (mv_ss st ≤ 8 ∧ c ≤ 0 ∧ s ≤ 0 ∧ mv_isO sh (some v1) 5 ∧ mv_kal S 169 [v1] sh M (mr188 S P) 19 L st c s) := (propext (mv_R_iff (i := .invokevirtual 246) (len := 3) (ax := [0, 169, 1, 5, 0, 0, 0, 1291, 1293, 93, 119, 1294]) (by decide +kernel))).trans (q_call0)
theorem e188_19 : mr188 S P 19 L st sh M c s = (q_isA (q_gv L 0) ∧ mr188 S P 20 L (q_gv L 0 :: st) sh M c s) := (propext (mv_R_iff (i := .aload_n 0) (len := 1) (ax := []) (by decide +kernel))).trans (q_ldA_eq (K := fun st => mr188 S P 20 L st sh M c s))
theorem e188_20 : mr188 S P 20 L st sh M c s = (q_isI (q_gv L 1) ∧ mr188 S P 21 L (q_gv L 1 :: st) sh M c s) := (propext (mv_R_iff (i := .iload_n 1) (len := 1) (ax := []) (by decide +kernel))).trans (q_ldI_eq (K := fun st => mr188 S P 21 L st sh M c s))
theorem e188_21 : mr188 S P 21 L st sh M c s = (q_isA (q_gv L 0) ∧ mr188 S P 22 L (q_gv L 0 :: st) sh M c s) := (propext (mv_R_iff (i := .aload_n 0) (len := 1) (ax := []) (by decide +kernel))).trans (q_ldA_eq (K := fun st => mr188 S P 22 L st sh M c s))
theorem e188_22 {v1 : Value} : mr188 S P 22 L (v1 :: st) sh M c s = (mv_ss st ≤ 8 ∧ c ≤ 0 ∧ s ≤ 0 ∧ mv_isO sh (some v1) 5 ∧ mv_kal S 176 [v1] sh M (mr188 S P) 25 L st c s) := (propext (mv_R_iff (i := .invokevirtual 249) (len := 3) (ax := [0, 176, 1, 5, 0, 0, 0, 1299, 1301, 95, 119, 1302]) (by decide +kernel))).trans (q_call0)
theorem e188_25 {v3 : Value} {v2 : Value} {v1 : Value} : mr188 S P 25 L (v3 :: v2 :: v1 :: st) sh M c s = (mv_ss st ≤ 8 ∧ c ≤ 0 ∧ s ≤ 0 ∧ mv_isO sh (some v1) 5 ∧ mv_kal S 179 [v1, v2, v3] sh M (mr188 S P) 28 L st c s) := (propext (mv_R_iff (i := .invokevirtual 252) (len := 3) (ax := [0, 179, 3, 5, 0, 0, 0, 1303, 1305, 96, 119, 1306]) (by decide +kernel))).trans (q_call0)
theorem e188_28 {x : Int32} : mr188 S P 28 L (.int x :: st) sh M c s = (q_hs L 3 ∧ mr188 S P 29 (L.set 3 (some (.int x))) st sh M c s) := (propext (mv_R_iff (i := .istore_n 3) (len := 1) (ax := []) (by decide +kernel))).trans (q_st_eq (K := fun L => mr188 S P 29 L st sh M c s))
theorem e188_29 : mr188 S P 29 L st sh M c s = (q_isI (q_gv L 3) ∧ mr188 S P 30 L (q_gv L 3 :: st) sh M c s) := (propext (mv_R_iff (i := .iload_n 3) (len := 1) (ax := []) (by decide +kernel))).trans (q_ldI_eq (K := fun st => mr188 S P 30 L st sh M c s))
theorem e188_30 : mr188 S P 30 L st sh M c s = (mr188 S P 32 L (.int (Int32.ofInt (-4)) :: st) sh M c s) := (propext (mv_R_iff (i := .bipush (-4)) (len := 2) (ax := []) (by decide +kernel))).trans (congrArg (fun z => mr188 S P 32 L (.int z :: st) sh M c s) (by decide : (Int8.ofInt (-4)).toInt32 = Int32.ofInt (-4)))
theorem e188_32 {y : Int32} {x : Int32} : mr188 S P 32 L (.int y :: .int x :: st) sh M c s = (if x = y then mr188 S P 35 L st sh M c s else mr188 S P 38 L st sh M c s) := (propext (mv_R_iff (i := .if_icmp .ne 6) (len := 3) (ax := [38]) (by decide +kernel))).trans (q_br')
theorem e188_35 : mr188 S P 35 L st sh M c s = (mr188 S P 37 L (.int (Int32.ofInt (-4)) :: st) sh M c s) := (propext (mv_R_iff (i := .bipush (-4)) (len := 2) (ax := []) (by decide +kernel))).trans (congrArg (fun z => mr188 S P 37 L (.int z :: st) sh M c s) (by decide : (Int8.ofInt (-4)).toInt32 = Int32.ofInt (-4)))
theorem e188_37 {x : Int32} : mr188 S P 37 L [.int x] sh M c s = (mv_nr 0 x ∧ P (some (.int x)) sh M) := propext (mv_R_iff (i := .ireturn) (len := 1) (ax := [0]) (by decide +kernel))
theorem e188_38 : mr188 S P 38 L st sh M c s = (mr188 S P 39 L (.int (nI 0) :: st) sh M c s) := propext (mv_R_iff (i := .iconst 0) (len := 1) (ax := []) (by decide +kernel))
theorem e188_39 {x : Int32} : mr188 S P 39 L (.int x :: st) sh M c s = (q_hs L 4 ∧ mr188 S P 41 (L.set 4 (some (.int x))) st sh M c s) := (propext (mv_R_iff (i := .istore 4) (len := 2) (ax := []) (by decide +kernel))).trans (q_st_eq (K := fun L => mr188 S P 41 L st sh M c s))
theorem e188_41 : mr188 S P 41 L st sh M c s = (q_isI (q_gv L 3) ∧ mr188 S P 42 L (q_gv L 3 :: st) sh M c s) := (propext (mv_R_iff (i := .iload_n 3) (len := 1) (ax := []) (by decide +kernel))).trans (q_ldI_eq (K := fun st => mr188 S P 42 L st sh M c s))
theorem e188_42 {x : Int32} : mr188 S P 42 L (.int x :: st) sh M c s = (q_hs L 5 ∧ mr188 S P 44 (L.set 5 (some (.int x))) st sh M c s) := (propext (mv_R_iff (i := .istore 5) (len := 2) (ax := []) (by decide +kernel))).trans (q_st_eq (K := fun L => mr188 S P 44 L st sh M c s))
theorem e188_44 : mr188 S P 44 L st sh M c s = (q_isA (q_gv L 0) ∧ mr188 S P 45 L (q_gv L 0 :: st) sh M c s) := (propext (mv_R_iff (i := .aload_n 0) (len := 1) (ax := []) (by decide +kernel))).trans (q_ldA_eq (K := fun st => mr188 S P 45 L st sh M c s))
theorem e188_45 {a : Nat} : mr188 S P 45 L (.ref a :: st) sh M c s = (mv_kgf sh M a 5 33 (mr188 S P) 48 L st c s) := propext (mv_R_iff (i := .getfield 65) (len := 3) (ax := [1058, 0, 5, 33]) (by decide +kernel))
theorem e188_48 : mr188 S P 48 L st sh M c s = (q_isI (q_gv L 5) ∧ mr188 S P 50 L (q_gv L 5 :: st) sh M c s) := (propext (mv_R_iff (i := .iload 5) (len := 2) (ax := []) (by decide +kernel))).trans (q_ldI_eq (K := fun st => mr188 S P 50 L st sh M c s))
theorem e188_50 {i : Int32} {a : Nat} : mr188 S P 50 L (.int i :: .ref a :: st) sh M c s = (mv_kld sh M a i (mr188 S P) 51 L st c s) := propext (mv_R_iff (i := .iaload) (len := 1) (ax := []) (by decide +kernel))
theorem e188_51 : mr188 S P 51 L st sh M c s = (mr188 S P 53 L (.int (Int32.ofInt (-4)) :: st) sh M c s) := (propext (mv_R_iff (i := .bipush (-4)) (len := 2) (ax := []) (by decide +kernel))).trans (congrArg (fun z => mr188 S P 53 L (.int z :: st) sh M c s) (by decide : (Int8.ofInt (-4)).toInt32 = Int32.ofInt (-4)))
theorem e188_53 {y : Int32} {x : Int32} : mr188 S P 53 L (.int y :: .int x :: st) sh M c s = (if x = y then mr188 S P 71 L st sh M c s else mr188 S P 56 L st sh M c s) := (propext (mv_R_iff (i := .if_icmp .eq 18) (len := 3) (ax := [71]) (by decide +kernel))).trans (q_br)
theorem e188_56 : mr188 S P 56 L st sh M c s = ((q_isI (q_gv L 4) ∧ q_hs L 4) ∧ mr188 S P 59 (L.set 4 (some (q_inc (q_gv L 4) (nI 1)))) st sh M c s) := (propext (mv_R_iff (i := .iinc 4 1) (len := 3) (ax := []) (by decide +kernel))).trans (q_inc_eq (K := fun L => mr188 S P 59 L st sh M c s))
theorem e188_59 : mr188 S P 59 L st sh M c s = (q_isA (q_gv L 0) ∧ mr188 S P 60 L (q_gv L 0 :: st) sh M c s) := (propext (mv_R_iff (i := .aload_n 0) (len := 1) (ax := []) (by decide +kernel))).trans (q_ldA_eq (K := fun st => mr188 S P 60 L st sh M c s))
theorem e188_60 {a : Nat} : mr188 S P 60 L (.ref a :: st) sh M c s = (mv_kgf sh M a 5 33 (mr188 S P) 63 L st c s) := propext (mv_R_iff (i := .getfield 65) (len := 3) (ax := [1058, 0, 5, 33]) (by decide +kernel))
theorem e188_63 : mr188 S P 63 L st sh M c s = (q_isI (q_gv L 5) ∧ mr188 S P 65 L (q_gv L 5 :: st) sh M c s) := (propext (mv_R_iff (i := .iload 5) (len := 2) (ax := []) (by decide +kernel))).trans (q_ldI_eq (K := fun st => mr188 S P 65 L st sh M c s))
theorem e188_65 {i : Int32} {a : Nat} : mr188 S P 65 L (.int i :: .ref a :: st) sh M c s = (mv_kld sh M a i (mr188 S P) 66 L st c s) := propext (mv_R_iff (i := .iaload) (len := 1) (ax := []) (by decide +kernel))
theorem e188_66 {x : Int32} : mr188 S P 66 L (.int x :: st) sh M c s = (q_hs L 5 ∧ mr188 S P 68 (L.set 5 (some (.int x))) st sh M c s) := (propext (mv_R_iff (i := .istore 5) (len := 2) (ax := []) (by decide +kernel))).trans (q_st_eq (K := fun L => mr188 S P 68 L st sh M c s))
theorem e188_68 : mr188 S P 68 L st sh M c s = (mr188 S P 44 L st sh M c s) := propext (mv_R_iff (i := .goto (-24)) (len := 3) (ax := [44]) (by decide +kernel))
theorem e188_71 : mr188 S P 71 L st sh M c s = (q_isI (q_gv L 2) ∧ mr188 S P 72 L (q_gv L 2 :: st) sh M c s) := (propext (mv_R_iff (i := .iload_n 2) (len := 1) (ax := []) (by decide +kernel))).trans (q_ldI_eq (K := fun st => mr188 S P 72 L st sh M c s))
theorem e188_72 {x : Int32} : mr188 S P 72 L (.int x :: st) sh M c s = (if x < nI 0 then mr188 S P 81 L st sh M c s else mr188 S P 75 L st sh M c s) := (propext (mv_R_iff (i := .ifCond .lt 9) (len := 3) (ax := [81]) (by decide +kernel))).trans (q_br)
theorem e188_75 : mr188 S P 75 L st sh M c s = (q_isI (q_gv L 2) ∧ mr188 S P 76 L (q_gv L 2 :: st) sh M c s) := (propext (mv_R_iff (i := .iload_n 2) (len := 1) (ax := []) (by decide +kernel))).trans (q_ldI_eq (K := fun st => mr188 S P 76 L st sh M c s))
theorem e188_76 : mr188 S P 76 L st sh M c s = (q_isI (q_gv L 4) ∧ mr188 S P 78 L (q_gv L 4 :: st) sh M c s) := (propext (mv_R_iff (i := .iload 4) (len := 2) (ax := []) (by decide +kernel))).trans (q_ldI_eq (K := fun st => mr188 S P 78 L st sh M c s))
theorem e188_78 {y : Int32} {x : Int32} : mr188 S P 78 L (.int y :: .int x :: st) sh M c s = (if x < y then mr188 S P 93 L st sh M c s else mr188 S P 81 L st sh M c s) := (propext (mv_R_iff (i := .if_icmp .lt 15) (len := 3) (ax := [93]) (by decide +kernel))).trans (q_br)
theorem e188_81 : mr188 S P 81 L st sh M c s = (q_isI (q_gv L 2) ∧ mr188 S P 82 L (q_gv L 2 :: st) sh M c s) := (propext (mv_R_iff (i := .iload_n 2) (len := 1) (ax := []) (by decide +kernel))).trans (q_ldI_eq (K := fun st => mr188 S P 82 L st sh M c s))
theorem e188_82 {x : Int32} : mr188 S P 82 L (.int x :: st) sh M c s = (if nI 0 ≤ x then mr188 S P 90 L st sh M c s else mr188 S P 85 L st sh M c s) := (propext (mv_R_iff (i := .ifCond .ge 8) (len := 3) (ax := [90]) (by decide +kernel))).trans (q_br)
theorem e188_85 : mr188 S P 85 L st sh M c s = (q_isI (q_gv L 4) ∧ mr188 S P 87 L (q_gv L 4 :: st) sh M c s) := (propext (mv_R_iff (i := .iload 4) (len := 2) (ax := []) (by decide +kernel))).trans (q_ldI_eq (K := fun st => mr188 S P 87 L st sh M c s))
theorem e188_87 : mr188 S P 87 L st sh M c s = (mr188 S P 92 L st sh M c s) := propext (mv_R_iff (i := .goto 5) (len := 3) (ax := [92]) (by decide +kernel))
theorem e188_90 : mr188 S P 90 L st sh M c s = (mr188 S P 92 L (.int (Int32.ofInt (-4)) :: st) sh M c s) := (propext (mv_R_iff (i := .bipush (-4)) (len := 2) (ax := []) (by decide +kernel))).trans (congrArg (fun z => mr188 S P 92 L (.int z :: st) sh M c s) (by decide : (Int8.ofInt (-4)).toInt32 = Int32.ofInt (-4)))
theorem e188_92 {x : Int32} : mr188 S P 92 L [.int x] sh M c s = (mv_nr 0 x ∧ P (some (.int x)) sh M) := propext (mv_R_iff (i := .ireturn) (len := 1) (ax := [0]) (by decide +kernel))
theorem e188_93 : mr188 S P 93 L st sh M c s = (q_isI (q_gv L 3) ∧ mr188 S P 94 L (q_gv L 3 :: st) sh M c s) := (propext (mv_R_iff (i := .iload_n 3) (len := 1) (ax := []) (by decide +kernel))).trans (q_ldI_eq (K := fun st => mr188 S P 94 L st sh M c s))
theorem e188_94 {x : Int32} : mr188 S P 94 L (.int x :: st) sh M c s = (q_hs L 5 ∧ mr188 S P 96 (L.set 5 (some (.int x))) st sh M c s) := (propext (mv_R_iff (i := .istore 5) (len := 2) (ax := []) (by decide +kernel))).trans (q_st_eq (K := fun L => mr188 S P 96 L st sh M c s))
theorem e188_96 : mr188 S P 96 L st sh M c s = (q_isI (q_gv L 4) ∧ mr188 S P 98 L (q_gv L 4 :: st) sh M c s) := (propext (mv_R_iff (i := .iload 4) (len := 2) (ax := []) (by decide +kernel))).trans (q_ldI_eq (K := fun st => mr188 S P 98 L st sh M c s))
theorem e188_98 : mr188 S P 98 L st sh M c s = (mr188 S P 99 L (.int (nI 1) :: st) sh M c s) := propext (mv_R_iff (i := .iconst 1) (len := 1) (ax := []) (by decide +kernel))
theorem e188_99 {y : Int32} {x : Int32} : mr188 S P 99 L (.int y :: .int x :: st) sh M c s = (mr188 S P 100 L (.int (x - y) :: st) sh M c s) := propext (mv_R_iff (i := .isub) (len := 1) (ax := []) (by decide +kernel))
theorem e188_100 {x : Int32} : mr188 S P 100 L (.int x :: st) sh M c s = (q_hs L 6 ∧ mr188 S P 102 (L.set 6 (some (.int x))) st sh M c s) := (propext (mv_R_iff (i := .istore 6) (len := 2) (ax := []) (by decide +kernel))).trans (q_st_eq (K := fun L => mr188 S P 102 L st sh M c s))
theorem e188_102 : mr188 S P 102 L st sh M c s = (q_isI (q_gv L 6) ∧ mr188 S P 104 L (q_gv L 6 :: st) sh M c s) := (propext (mv_R_iff (i := .iload 6) (len := 2) (ax := []) (by decide +kernel))).trans (q_ldI_eq (K := fun st => mr188 S P 104 L st sh M c s))
theorem e188_104 : mr188 S P 104 L st sh M c s = (q_isI (q_gv L 2) ∧ mr188 S P 105 L (q_gv L 2 :: st) sh M c s) := (propext (mv_R_iff (i := .iload_n 2) (len := 1) (ax := []) (by decide +kernel))).trans (q_ldI_eq (K := fun st => mr188 S P 105 L st sh M c s))
theorem e188_105 {y : Int32} {x : Int32} : mr188 S P 105 L (.int y :: .int x :: st) sh M c s = (if x ≤ y then mr188 S P 123 L st sh M c s else mr188 S P 108 L st sh M c s) := (propext (mv_R_iff (i := .if_icmp .le 18) (len := 3) (ax := [123]) (by decide +kernel))).trans (q_br)
theorem e188_108 : mr188 S P 108 L st sh M c s = (q_isA (q_gv L 0) ∧ mr188 S P 109 L (q_gv L 0 :: st) sh M c s) := (propext (mv_R_iff (i := .aload_n 0) (len := 1) (ax := []) (by decide +kernel))).trans (q_ldA_eq (K := fun st => mr188 S P 109 L st sh M c s))
theorem e188_109 {a : Nat} : mr188 S P 109 L (.ref a :: st) sh M c s = (mv_kgf sh M a 5 33 (mr188 S P) 112 L st c s) := propext (mv_R_iff (i := .getfield 65) (len := 3) (ax := [1058, 0, 5, 33]) (by decide +kernel))
theorem e188_112 : mr188 S P 112 L st sh M c s = (q_isI (q_gv L 5) ∧ mr188 S P 114 L (q_gv L 5 :: st) sh M c s) := (propext (mv_R_iff (i := .iload 5) (len := 2) (ax := []) (by decide +kernel))).trans (q_ldI_eq (K := fun st => mr188 S P 114 L st sh M c s))
theorem e188_114 {i : Int32} {a : Nat} : mr188 S P 114 L (.int i :: .ref a :: st) sh M c s = (mv_kld sh M a i (mr188 S P) 115 L st c s) := propext (mv_R_iff (i := .iaload) (len := 1) (ax := []) (by decide +kernel))
theorem e188_115 {x : Int32} : mr188 S P 115 L (.int x :: st) sh M c s = (q_hs L 5 ∧ mr188 S P 117 (L.set 5 (some (.int x))) st sh M c s) := (propext (mv_R_iff (i := .istore 5) (len := 2) (ax := []) (by decide +kernel))).trans (q_st_eq (K := fun L => mr188 S P 117 L st sh M c s))
theorem e188_117 : mr188 S P 117 L st sh M c s = ((q_isI (q_gv L 6) ∧ q_hs L 6) ∧ mr188 S P 120 (L.set 6 (some (q_inc (q_gv L 6) (Int32.ofInt (-1))))) st sh M c s) := (propext (mv_R_iff (i := .iinc 6 (-1)) (len := 3) (ax := []) (by decide +kernel))).trans (q_inc_eq (K := fun L => mr188 S P 120 L st sh M c s))
theorem e188_120 : mr188 S P 120 L st sh M c s = (mr188 S P 102 L st sh M c s) := propext (mv_R_iff (i := .goto (-18)) (len := 3) (ax := [102]) (by decide +kernel))
theorem e188_123 : mr188 S P 123 L st sh M c s = (mr188 S P 125 L (.int (nI 10) :: st) sh M c s) := propext (mv_R_iff (i := .bipush 10) (len := 2) (ax := []) (by decide +kernel))
theorem e188_125 : mr188 S P 125 L st sh M c s = (q_isA (q_gv L 0) ∧ mr188 S P 126 L (q_gv L 0 :: st) sh M c s) := (propext (mv_R_iff (i := .aload_n 0) (len := 1) (ax := []) (by decide +kernel))).trans (q_ldA_eq (K := fun st => mr188 S P 126 L st sh M c s))
theorem e188_126 {a : Nat} : mr188 S P 126 L (.ref a :: st) sh M c s = (mv_kgf sh M a 5 34 (mr188 S P) 129 L st c s) := propext (mv_R_iff (i := .getfield 68) (len := 3) (ax := [1059, 0, 5, 34]) (by decide +kernel))
theorem e188_129 : mr188 S P 129 L st sh M c s = (q_isI (q_gv L 5) ∧ mr188 S P 131 L (q_gv L 5 :: st) sh M c s) := (propext (mv_R_iff (i := .iload 5) (len := 2) (ax := []) (by decide +kernel))).trans (q_ldI_eq (K := fun st => mr188 S P 131 L st sh M c s))
theorem e188_131 {i : Int32} {a : Nat} : mr188 S P 131 L (.int i :: .ref a :: st) sh M c s = (mv_kld sh M a i (mr188 S P) 132 L st c s) := propext (mv_R_iff (i := .iaload) (len := 1) (ax := []) (by decide +kernel))
theorem e188_132 : mr188 S P 132 L st sh M c s = (mr188 S P 133 L (.int (nI 2) :: st) sh M c s) := propext (mv_R_iff (i := .iconst 2) (len := 1) (ax := []) (by decide +kernel))
theorem e188_133 {y : Int32} {x : Int32} : mr188 S P 133 L (.int y :: .int x :: st) sh M c s = (¬ y = nI 0 ∧ mr188 S P 134 L (.int (x / y) :: st) sh M c s) := propext (mv_R_iff (i := .idiv) (len := 1) (ax := []) (by decide +kernel))
theorem e188_134 {y : Int32} {x : Int32} : mr188 S P 134 L (.int y :: .int x :: st) sh M c s = (mr188 S P 135 L (.int (x * y) :: st) sh M c s) := propext (mv_R_iff (i := .imul) (len := 1) (ax := []) (by decide +kernel))
theorem e188_135 : mr188 S P 135 L st sh M c s = (q_isA (q_gv L 0) ∧ mr188 S P 136 L (q_gv L 0 :: st) sh M c s) := (propext (mv_R_iff (i := .aload_n 0) (len := 1) (ax := []) (by decide +kernel))).trans (q_ldA_eq (K := fun st => mr188 S P 136 L st sh M c s))
theorem e188_136 {a : Nat} : mr188 S P 136 L (.ref a :: st) sh M c s = (mv_kgf sh M a 5 34 (mr188 S P) 139 L st c s) := propext (mv_R_iff (i := .getfield 68) (len := 3) (ax := [1059, 0, 5, 34]) (by decide +kernel))
theorem e188_139 : mr188 S P 139 L st sh M c s = (q_isI (q_gv L 5) ∧ mr188 S P 141 L (q_gv L 5 :: st) sh M c s) := (propext (mv_R_iff (i := .iload 5) (len := 2) (ax := []) (by decide +kernel))).trans (q_ldI_eq (K := fun st => mr188 S P 141 L st sh M c s))
theorem e188_141 {i : Int32} {a : Nat} : mr188 S P 141 L (.int i :: .ref a :: st) sh M c s = (mv_kld sh M a i (mr188 S P) 142 L st c s) := propext (mv_R_iff (i := .iaload) (len := 1) (ax := []) (by decide +kernel))
theorem e188_142 : mr188 S P 142 L st sh M c s = (mr188 S P 143 L (.int (nI 2) :: st) sh M c s) := propext (mv_R_iff (i := .iconst 2) (len := 1) (ax := []) (by decide +kernel))
theorem e188_143 {y : Int32} {x : Int32} : mr188 S P 143 L (.int y :: .int x :: st) sh M c s = (¬ y = nI 0 ∧ mr188 S P 144 L (.int (q_rm x y) :: st) sh M c s) := propext (mv_R_iff (i := .irem) (len := 1) (ax := []) (by decide +kernel))
theorem e188_144 {y : Int32} {x : Int32} : mr188 S P 144 L (.int y :: .int x :: st) sh M c s = (mr188 S P 145 L (.int (x + y) :: st) sh M c s) := propext (mv_R_iff (i := .iadd) (len := 1) (ax := []) (by decide +kernel))
theorem e188_145 {x : Int32} : mr188 S P 145 L [.int x] sh M c s = (mv_nr 0 x ∧ P (some (.int x)) sh M) := propext (mv_R_iff (i := .ireturn) (len := 1) (ax := [0]) (by decide +kernel))
-- 189: TurnedTabletsModel.flip(I)I
def mk189 : mv_Cd := [
  (0, .aload_n 0, 1, []),
  (1, .iload_n 1, 1, []),
  (2, .invokevirtual 197, 3, [0, 181, 2, 5, 0, 0, 0, 1163, 1165, 79, 119, 1166]),
  (5, .ifCond .ne 5, 3, [10]),
  (8, .iconst (-1), 1, []),
  (9, .ireturn, 1, [0]),
  (10, .aload_n 0, 1, []),
  (11, .invokevirtual 212, 3, [0, 157, 1, 5, 0, 0, 0, 1211, 1213, 84, 119, 1214]),
  (14, .aload_n 0, 1, []),
  (15, .getfield 7, 3, [1025, 0, 5, 0]),
  (18, .iconst 0, 1, []),
  (19, .iload_n 1, 1, []),
  (20, .iadd, 1, []),
  (21, .iconst 1, 1, []),
  (22, .aload_n 0, 1, []),
  (23, .getfield 7, 3, [1025, 0, 5, 0]),
  (26, .iconst 0, 1, []),
  (27, .iload_n 1, 1, []),
  (28, .iadd, 1, []),
  (29, .iaload, 1, []),
  (30, .isub, 1, []),
  (31, .iastore, 1, []),
  (32, .aload_n 0, 1, []),
  (33, .getfield 7, 3, [1025, 0, 5, 0]),
  (36, .iconst 0, 1, []),
  (37, .iload_n 1, 1, []),
  (38, .iadd, 1, []),
  (39, .iaload, 1, []),
  (40, .ireturn, 1, [0])]
def mr189 (S : Nat → mv_Sp) (P : mv_Post) : mv_Kt := mv_R mv_DF mk189 S (0, 0) P
theorem e189_0 : mr189 S P 0 L st sh M c s = (q_isA (q_gv L 0) ∧ mr189 S P 1 L (q_gv L 0 :: st) sh M c s) := (propext (mv_R_iff (i := .aload_n 0) (len := 1) (ax := []) (by decide +kernel))).trans (q_ldA_eq (K := fun st => mr189 S P 1 L st sh M c s))
theorem e189_1 : mr189 S P 1 L st sh M c s = (q_isI (q_gv L 1) ∧ mr189 S P 2 L (q_gv L 1 :: st) sh M c s) := (propext (mv_R_iff (i := .iload_n 1) (len := 1) (ax := []) (by decide +kernel))).trans (q_ldI_eq (K := fun st => mr189 S P 2 L st sh M c s))
theorem e189_2 {v2 : Value} {v1 : Value} : mr189 S P 2 L (v2 :: v1 :: st) sh M c s = (mv_ss st ≤ 8 ∧ c ≤ 0 ∧ s ≤ 0 ∧ mv_isO sh (some v1) 5 ∧ mv_kal S 181 [v1, v2] sh M (mr189 S P) 5 L st c s) := (propext (mv_R_iff (i := .invokevirtual 197) (len := 3) (ax := [0, 181, 2, 5, 0, 0, 0, 1163, 1165, 79, 119, 1166]) (by decide +kernel))).trans (q_call0)
theorem e189_5 {x : Int32} : mr189 S P 5 L (.int x :: st) sh M c s = (if x = nI 0 then mr189 S P 8 L st sh M c s else mr189 S P 10 L st sh M c s) := (propext (mv_R_iff (i := .ifCond .ne 5) (len := 3) (ax := [10]) (by decide +kernel))).trans (q_br')
theorem e189_8 : mr189 S P 8 L st sh M c s = (mr189 S P 9 L (.int (Int32.ofInt (-1)) :: st) sh M c s) := propext (mv_R_iff (i := .iconst (-1)) (len := 1) (ax := []) (by decide +kernel))
theorem e189_9 {x : Int32} : mr189 S P 9 L [.int x] sh M c s = (mv_nr 0 x ∧ P (some (.int x)) sh M) := propext (mv_R_iff (i := .ireturn) (len := 1) (ax := [0]) (by decide +kernel))
theorem e189_10 : mr189 S P 10 L st sh M c s = (q_isA (q_gv L 0) ∧ mr189 S P 11 L (q_gv L 0 :: st) sh M c s) := (propext (mv_R_iff (i := .aload_n 0) (len := 1) (ax := []) (by decide +kernel))).trans (q_ldA_eq (K := fun st => mr189 S P 11 L st sh M c s))
theorem e189_11 {v1 : Value} : mr189 S P 11 L (v1 :: st) sh M c s = (mv_ss st ≤ 8 ∧ c ≤ 0 ∧ s ≤ 0 ∧ mv_isO sh (some v1) 5 ∧ mv_kal S 157 [v1] sh M (mr189 S P) 14 L st c s) := (propext (mv_R_iff (i := .invokevirtual 212) (len := 3) (ax := [0, 157, 1, 5, 0, 0, 0, 1211, 1213, 84, 119, 1214]) (by decide +kernel))).trans (q_call0)
theorem e189_14 : mr189 S P 14 L st sh M c s = (q_isA (q_gv L 0) ∧ mr189 S P 15 L (q_gv L 0 :: st) sh M c s) := (propext (mv_R_iff (i := .aload_n 0) (len := 1) (ax := []) (by decide +kernel))).trans (q_ldA_eq (K := fun st => mr189 S P 15 L st sh M c s))
theorem e189_15 {a : Nat} : mr189 S P 15 L (.ref a :: st) sh M c s = (mv_kgf sh M a 5 0 (mr189 S P) 18 L st c s) := propext (mv_R_iff (i := .getfield 7) (len := 3) (ax := [1025, 0, 5, 0]) (by decide +kernel))
theorem e189_18 : mr189 S P 18 L st sh M c s = (mr189 S P 19 L (.int (nI 0) :: st) sh M c s) := propext (mv_R_iff (i := .iconst 0) (len := 1) (ax := []) (by decide +kernel))
theorem e189_19 : mr189 S P 19 L st sh M c s = (q_isI (q_gv L 1) ∧ mr189 S P 20 L (q_gv L 1 :: st) sh M c s) := (propext (mv_R_iff (i := .iload_n 1) (len := 1) (ax := []) (by decide +kernel))).trans (q_ldI_eq (K := fun st => mr189 S P 20 L st sh M c s))
theorem e189_20 {y : Int32} {x : Int32} : mr189 S P 20 L (.int y :: .int x :: st) sh M c s = (mr189 S P 21 L (.int (x + y) :: st) sh M c s) := propext (mv_R_iff (i := .iadd) (len := 1) (ax := []) (by decide +kernel))
theorem e189_21 : mr189 S P 21 L st sh M c s = (mr189 S P 22 L (.int (nI 1) :: st) sh M c s) := propext (mv_R_iff (i := .iconst 1) (len := 1) (ax := []) (by decide +kernel))
theorem e189_22 : mr189 S P 22 L st sh M c s = (q_isA (q_gv L 0) ∧ mr189 S P 23 L (q_gv L 0 :: st) sh M c s) := (propext (mv_R_iff (i := .aload_n 0) (len := 1) (ax := []) (by decide +kernel))).trans (q_ldA_eq (K := fun st => mr189 S P 23 L st sh M c s))
theorem e189_23 {a : Nat} : mr189 S P 23 L (.ref a :: st) sh M c s = (mv_kgf sh M a 5 0 (mr189 S P) 26 L st c s) := propext (mv_R_iff (i := .getfield 7) (len := 3) (ax := [1025, 0, 5, 0]) (by decide +kernel))
theorem e189_26 : mr189 S P 26 L st sh M c s = (mr189 S P 27 L (.int (nI 0) :: st) sh M c s) := propext (mv_R_iff (i := .iconst 0) (len := 1) (ax := []) (by decide +kernel))
theorem e189_27 : mr189 S P 27 L st sh M c s = (q_isI (q_gv L 1) ∧ mr189 S P 28 L (q_gv L 1 :: st) sh M c s) := (propext (mv_R_iff (i := .iload_n 1) (len := 1) (ax := []) (by decide +kernel))).trans (q_ldI_eq (K := fun st => mr189 S P 28 L st sh M c s))
theorem e189_28 {y : Int32} {x : Int32} : mr189 S P 28 L (.int y :: .int x :: st) sh M c s = (mr189 S P 29 L (.int (x + y) :: st) sh M c s) := propext (mv_R_iff (i := .iadd) (len := 1) (ax := []) (by decide +kernel))
theorem e189_29 {i : Int32} {a : Nat} : mr189 S P 29 L (.int i :: .ref a :: st) sh M c s = (mv_kld sh M a i (mr189 S P) 30 L st c s) := propext (mv_R_iff (i := .iaload) (len := 1) (ax := []) (by decide +kernel))
theorem e189_30 {y : Int32} {x : Int32} : mr189 S P 30 L (.int y :: .int x :: st) sh M c s = (mr189 S P 31 L (.int (x - y) :: st) sh M c s) := propext (mv_R_iff (i := .isub) (len := 1) (ax := []) (by decide +kernel))
theorem e189_31 {x : Int32} {i : Int32} {a : Nat} : mr189 S P 31 L (.int x :: .int i :: .ref a :: st) sh M c s = (mv_kst sh M a i x (mr189 S P) 32 L st c s) := propext (mv_R_iff (i := .iastore) (len := 1) (ax := []) (by decide +kernel))
theorem e189_32 : mr189 S P 32 L st sh M c s = (q_isA (q_gv L 0) ∧ mr189 S P 33 L (q_gv L 0 :: st) sh M c s) := (propext (mv_R_iff (i := .aload_n 0) (len := 1) (ax := []) (by decide +kernel))).trans (q_ldA_eq (K := fun st => mr189 S P 33 L st sh M c s))
theorem e189_33 {a : Nat} : mr189 S P 33 L (.ref a :: st) sh M c s = (mv_kgf sh M a 5 0 (mr189 S P) 36 L st c s) := propext (mv_R_iff (i := .getfield 7) (len := 3) (ax := [1025, 0, 5, 0]) (by decide +kernel))
theorem e189_36 : mr189 S P 36 L st sh M c s = (mr189 S P 37 L (.int (nI 0) :: st) sh M c s) := propext (mv_R_iff (i := .iconst 0) (len := 1) (ax := []) (by decide +kernel))
theorem e189_37 : mr189 S P 37 L st sh M c s = (q_isI (q_gv L 1) ∧ mr189 S P 38 L (q_gv L 1 :: st) sh M c s) := (propext (mv_R_iff (i := .iload_n 1) (len := 1) (ax := []) (by decide +kernel))).trans (q_ldI_eq (K := fun st => mr189 S P 38 L st sh M c s))
theorem e189_38 {y : Int32} {x : Int32} : mr189 S P 38 L (.int y :: .int x :: st) sh M c s = (mr189 S P 39 L (.int (x + y) :: st) sh M c s) := propext (mv_R_iff (i := .iadd) (len := 1) (ax := []) (by decide +kernel))
theorem e189_39 {i : Int32} {a : Nat} : mr189 S P 39 L (.int i :: .ref a :: st) sh M c s = (mv_kld sh M a i (mr189 S P) 40 L st c s) := propext (mv_R_iff (i := .iaload) (len := 1) (ax := []) (by decide +kernel))
theorem e189_40 {x : Int32} : mr189 S P 40 L [.int x] sh M c s = (mv_nr 0 x ∧ P (some (.int x)) sh M) := propext (mv_R_iff (i := .ireturn) (len := 1) (ax := [0]) (by decide +kernel))
-- 190: TurnedTabletsModel.forget()I
def mk190 : mv_Cd := [
  (0, .aload_n 0, 1, []),
  (1, .getfield 169, 3, [1039, 0, 5, 14]),
  (4, .istore_n 1, 1, []),
  (5, .aload_n 0, 1, []),
  (6, .iconst 0, 1, []),
  (7, .putfield 169, 3, [1039, 0, 5, 14, 0]),
  (10, .iload_n 1, 1, []),
  (11, .ireturn, 1, [0])]
def mr190 (S : Nat → mv_Sp) (P : mv_Post) : mv_Kt := mv_R mv_DF mk190 S (0, 0) P
theorem e190_0 : mr190 S P 0 L st sh M c s = (q_isA (q_gv L 0) ∧ mr190 S P 1 L (q_gv L 0 :: st) sh M c s) := (propext (mv_R_iff (i := .aload_n 0) (len := 1) (ax := []) (by decide +kernel))).trans (q_ldA_eq (K := fun st => mr190 S P 1 L st sh M c s))
theorem e190_1 {a : Nat} : mr190 S P 1 L (.ref a :: st) sh M c s = (mv_kgf sh M a 5 14 (mr190 S P) 4 L st c s) := propext (mv_R_iff (i := .getfield 169) (len := 3) (ax := [1039, 0, 5, 14]) (by decide +kernel))
theorem e190_4 {x : Int32} : mr190 S P 4 L (.int x :: st) sh M c s = (q_hs L 1 ∧ mr190 S P 5 (L.set 1 (some (.int x))) st sh M c s) := (propext (mv_R_iff (i := .istore_n 1) (len := 1) (ax := []) (by decide +kernel))).trans (q_st_eq (K := fun L => mr190 S P 5 L st sh M c s))
theorem e190_5 : mr190 S P 5 L st sh M c s = (q_isA (q_gv L 0) ∧ mr190 S P 6 L (q_gv L 0 :: st) sh M c s) := (propext (mv_R_iff (i := .aload_n 0) (len := 1) (ax := []) (by decide +kernel))).trans (q_ldA_eq (K := fun st => mr190 S P 6 L st sh M c s))
theorem e190_6 : mr190 S P 6 L st sh M c s = (mr190 S P 7 L (.int (nI 0) :: st) sh M c s) := propext (mv_R_iff (i := .iconst 0) (len := 1) (ax := []) (by decide +kernel))
theorem e190_7 {x : Int32} {a : Nat} : mr190 S P 7 L (.int x :: .ref a :: st) sh M c s = (True ∧ mv_kpf sh M a 5 14 x (mr190 S P) 10 L st c s) := propext (mv_R_iff (i := .putfield 169) (len := 3) (ax := [1039, 0, 5, 14, 0]) (by decide +kernel))
theorem e190_10 : mr190 S P 10 L st sh M c s = (q_isI (q_gv L 1) ∧ mr190 S P 11 L (q_gv L 1 :: st) sh M c s) := (propext (mv_R_iff (i := .iload_n 1) (len := 1) (ax := []) (by decide +kernel))).trans (q_ldI_eq (K := fun st => mr190 S P 11 L st sh M c s))
theorem e190_11 {x : Int32} : mr190 S P 11 L [.int x] sh M c s = (mv_nr 0 x ∧ P (some (.int x)) sh M) := propext (mv_R_iff (i := .ireturn) (len := 1) (ax := [0]) (by decide +kernel))
-- 191: TurnedTabletsModel.gathers(I)I
def mk191 : mv_Cd := [
  (0, .iconst 0, 1, []),
  (1, .istore_n 2, 1, []),
  (2, .iconst 0, 1, []),
  (3, .istore_n 3, 1, []),
  (4, .iload_n 3, 1, []),
  (5, .aload_n 0, 1, []),
  (6, .getfield 160, 3, [1035, 0, 5, 10]),
  (9, .if_icmp .ge 51, 3, [60]),
  (12, .iload_n 2, 1, []),
  (13, .aload_n 0, 1, []),
  (14, .getfield 22, 3, [1033, 0, 5, 8]),
  (17, .aload_n 0, 1, []),
  (18, .getfield 25, 3, [1036, 0, 5, 11]),
  (21, .iload_n 3, 1, []),
  (22, .iaload, 1, []),
  (23, .bipush 10, 2, []),
  (25, .idiv, 1, []),
  (26, .iaload, 1, []),
  (27, .iload_n 1, 1, []),
  (28, .invokestatic 124, 3, [3, 148, 2, 0, 0, 0, 0, 1014, 1015, 119, 1016]),
  (31, .ifCond .eq 20, 3, [51]),
  (34, .aload_n 0, 1, []),
  (35, .iload_n 1, 1, []),
  (36, .aload_n 0, 1, []),
  (37, .getfield 25, 3, [1036, 0, 5, 11]),
  (40, .iload_n 3, 1, []),
  (41, .iaload, 1, []),
  (42, .bipush 10, 2, []),
  (44, .irem, 1, []),
  (45, .invokevirtual 172, 3, [0, 158, 3, 5, 0, 0, 0, 1231, 1233, 89, 119, 1234]),
  (48, .goto 4, 3, [52]),
  (51, .iconst 0, 1, []),
  (52, .iadd, 1, []),
  (53, .istore_n 2, 1, []),
  (54, .iinc 3 1, 3, []),
  (57, .goto (-53), 3, [4]),
  (60, .iload_n 2, 1, []),
  (61, .ireturn, 1, [0])]
def mr191 (S : Nat → mv_Sp) (P : mv_Post) : mv_Kt := mv_R mv_DF mk191 S (0, 0) P
theorem e191_0 : mr191 S P 0 L st sh M c s = (mr191 S P 1 L (.int (nI 0) :: st) sh M c s) := propext (mv_R_iff (i := .iconst 0) (len := 1) (ax := []) (by decide +kernel))
theorem e191_1 {x : Int32} : mr191 S P 1 L (.int x :: st) sh M c s = (q_hs L 2 ∧ mr191 S P 2 (L.set 2 (some (.int x))) st sh M c s) := (propext (mv_R_iff (i := .istore_n 2) (len := 1) (ax := []) (by decide +kernel))).trans (q_st_eq (K := fun L => mr191 S P 2 L st sh M c s))
theorem e191_2 : mr191 S P 2 L st sh M c s = (mr191 S P 3 L (.int (nI 0) :: st) sh M c s) := propext (mv_R_iff (i := .iconst 0) (len := 1) (ax := []) (by decide +kernel))
theorem e191_3 {x : Int32} : mr191 S P 3 L (.int x :: st) sh M c s = (q_hs L 3 ∧ mr191 S P 4 (L.set 3 (some (.int x))) st sh M c s) := (propext (mv_R_iff (i := .istore_n 3) (len := 1) (ax := []) (by decide +kernel))).trans (q_st_eq (K := fun L => mr191 S P 4 L st sh M c s))
theorem e191_4 : mr191 S P 4 L st sh M c s = (q_isI (q_gv L 3) ∧ mr191 S P 5 L (q_gv L 3 :: st) sh M c s) := (propext (mv_R_iff (i := .iload_n 3) (len := 1) (ax := []) (by decide +kernel))).trans (q_ldI_eq (K := fun st => mr191 S P 5 L st sh M c s))
theorem e191_5 : mr191 S P 5 L st sh M c s = (q_isA (q_gv L 0) ∧ mr191 S P 6 L (q_gv L 0 :: st) sh M c s) := (propext (mv_R_iff (i := .aload_n 0) (len := 1) (ax := []) (by decide +kernel))).trans (q_ldA_eq (K := fun st => mr191 S P 6 L st sh M c s))
theorem e191_6 {a : Nat} : mr191 S P 6 L (.ref a :: st) sh M c s = (mv_kgf sh M a 5 10 (mr191 S P) 9 L st c s) := propext (mv_R_iff (i := .getfield 160) (len := 3) (ax := [1035, 0, 5, 10]) (by decide +kernel))
theorem e191_9 {y : Int32} {x : Int32} : mr191 S P 9 L (.int y :: .int x :: st) sh M c s = (if y ≤ x then mr191 S P 60 L st sh M c s else mr191 S P 12 L st sh M c s) := (propext (mv_R_iff (i := .if_icmp .ge 51) (len := 3) (ax := [60]) (by decide +kernel))).trans (q_br)
theorem e191_12 : mr191 S P 12 L st sh M c s = (q_isI (q_gv L 2) ∧ mr191 S P 13 L (q_gv L 2 :: st) sh M c s) := (propext (mv_R_iff (i := .iload_n 2) (len := 1) (ax := []) (by decide +kernel))).trans (q_ldI_eq (K := fun st => mr191 S P 13 L st sh M c s))
theorem e191_13 : mr191 S P 13 L st sh M c s = (q_isA (q_gv L 0) ∧ mr191 S P 14 L (q_gv L 0 :: st) sh M c s) := (propext (mv_R_iff (i := .aload_n 0) (len := 1) (ax := []) (by decide +kernel))).trans (q_ldA_eq (K := fun st => mr191 S P 14 L st sh M c s))
theorem e191_14 {a : Nat} : mr191 S P 14 L (.ref a :: st) sh M c s = (mv_kgf sh M a 5 8 (mr191 S P) 17 L st c s) := propext (mv_R_iff (i := .getfield 22) (len := 3) (ax := [1033, 0, 5, 8]) (by decide +kernel))
theorem e191_17 : mr191 S P 17 L st sh M c s = (q_isA (q_gv L 0) ∧ mr191 S P 18 L (q_gv L 0 :: st) sh M c s) := (propext (mv_R_iff (i := .aload_n 0) (len := 1) (ax := []) (by decide +kernel))).trans (q_ldA_eq (K := fun st => mr191 S P 18 L st sh M c s))
theorem e191_18 {a : Nat} : mr191 S P 18 L (.ref a :: st) sh M c s = (mv_kgf sh M a 5 11 (mr191 S P) 21 L st c s) := propext (mv_R_iff (i := .getfield 25) (len := 3) (ax := [1036, 0, 5, 11]) (by decide +kernel))
theorem e191_21 : mr191 S P 21 L st sh M c s = (q_isI (q_gv L 3) ∧ mr191 S P 22 L (q_gv L 3 :: st) sh M c s) := (propext (mv_R_iff (i := .iload_n 3) (len := 1) (ax := []) (by decide +kernel))).trans (q_ldI_eq (K := fun st => mr191 S P 22 L st sh M c s))
theorem e191_22 {i : Int32} {a : Nat} : mr191 S P 22 L (.int i :: .ref a :: st) sh M c s = (mv_kld sh M a i (mr191 S P) 23 L st c s) := propext (mv_R_iff (i := .iaload) (len := 1) (ax := []) (by decide +kernel))
theorem e191_23 : mr191 S P 23 L st sh M c s = (mr191 S P 25 L (.int (nI 10) :: st) sh M c s) := propext (mv_R_iff (i := .bipush 10) (len := 2) (ax := []) (by decide +kernel))
theorem e191_25 {y : Int32} {x : Int32} : mr191 S P 25 L (.int y :: .int x :: st) sh M c s = (¬ y = nI 0 ∧ mr191 S P 26 L (.int (x / y) :: st) sh M c s) := propext (mv_R_iff (i := .idiv) (len := 1) (ax := []) (by decide +kernel))
theorem e191_26 {i : Int32} {a : Nat} : mr191 S P 26 L (.int i :: .ref a :: st) sh M c s = (mv_kld sh M a i (mr191 S P) 27 L st c s) := propext (mv_R_iff (i := .iaload) (len := 1) (ax := []) (by decide +kernel))
theorem e191_27 : mr191 S P 27 L st sh M c s = (q_isI (q_gv L 1) ∧ mr191 S P 28 L (q_gv L 1 :: st) sh M c s) := (propext (mv_R_iff (i := .iload_n 1) (len := 1) (ax := []) (by decide +kernel))).trans (q_ldI_eq (K := fun st => mr191 S P 28 L st sh M c s))
theorem e191_28 {v2 : Value} {v1 : Value} : mr191 S P 28 L (v2 :: v1 :: st) sh M c s = (mv_ss st ≤ 8 ∧ c ≤ 0 ∧ s ≤ 0 ∧ True ∧ mv_kal S 148 [v1, v2] sh M (mr191 S P) 31 L st c s) := (propext (mv_R_iff (i := .invokestatic 124) (len := 3) (ax := [3, 148, 2, 0, 0, 0, 0, 1014, 1015, 119, 1016]) (by decide +kernel))).trans (q_call3)
theorem e191_31 {x : Int32} : mr191 S P 31 L (.int x :: st) sh M c s = (if x = nI 0 then mr191 S P 51 L st sh M c s else mr191 S P 34 L st sh M c s) := (propext (mv_R_iff (i := .ifCond .eq 20) (len := 3) (ax := [51]) (by decide +kernel))).trans (q_br)
theorem e191_34 : mr191 S P 34 L st sh M c s = (q_isA (q_gv L 0) ∧ mr191 S P 35 L (q_gv L 0 :: st) sh M c s) := (propext (mv_R_iff (i := .aload_n 0) (len := 1) (ax := []) (by decide +kernel))).trans (q_ldA_eq (K := fun st => mr191 S P 35 L st sh M c s))
theorem e191_35 : mr191 S P 35 L st sh M c s = (q_isI (q_gv L 1) ∧ mr191 S P 36 L (q_gv L 1 :: st) sh M c s) := (propext (mv_R_iff (i := .iload_n 1) (len := 1) (ax := []) (by decide +kernel))).trans (q_ldI_eq (K := fun st => mr191 S P 36 L st sh M c s))
theorem e191_36 : mr191 S P 36 L st sh M c s = (q_isA (q_gv L 0) ∧ mr191 S P 37 L (q_gv L 0 :: st) sh M c s) := (propext (mv_R_iff (i := .aload_n 0) (len := 1) (ax := []) (by decide +kernel))).trans (q_ldA_eq (K := fun st => mr191 S P 37 L st sh M c s))
theorem e191_37 {a : Nat} : mr191 S P 37 L (.ref a :: st) sh M c s = (mv_kgf sh M a 5 11 (mr191 S P) 40 L st c s) := propext (mv_R_iff (i := .getfield 25) (len := 3) (ax := [1036, 0, 5, 11]) (by decide +kernel))
theorem e191_40 : mr191 S P 40 L st sh M c s = (q_isI (q_gv L 3) ∧ mr191 S P 41 L (q_gv L 3 :: st) sh M c s) := (propext (mv_R_iff (i := .iload_n 3) (len := 1) (ax := []) (by decide +kernel))).trans (q_ldI_eq (K := fun st => mr191 S P 41 L st sh M c s))
theorem e191_41 {i : Int32} {a : Nat} : mr191 S P 41 L (.int i :: .ref a :: st) sh M c s = (mv_kld sh M a i (mr191 S P) 42 L st c s) := propext (mv_R_iff (i := .iaload) (len := 1) (ax := []) (by decide +kernel))
theorem e191_42 : mr191 S P 42 L st sh M c s = (mr191 S P 44 L (.int (nI 10) :: st) sh M c s) := propext (mv_R_iff (i := .bipush 10) (len := 2) (ax := []) (by decide +kernel))
theorem e191_44 {y : Int32} {x : Int32} : mr191 S P 44 L (.int y :: .int x :: st) sh M c s = (¬ y = nI 0 ∧ mr191 S P 45 L (.int (q_rm x y) :: st) sh M c s) := propext (mv_R_iff (i := .irem) (len := 1) (ax := []) (by decide +kernel))
theorem e191_45 {v3 : Value} {v2 : Value} {v1 : Value} : mr191 S P 45 L (v3 :: v2 :: v1 :: st) sh M c s = (mv_ss st ≤ 8 ∧ c ≤ 0 ∧ s ≤ 0 ∧ mv_isO sh (some v1) 5 ∧ mv_kal S 158 [v1, v2, v3] sh M (mr191 S P) 48 L st c s) := (propext (mv_R_iff (i := .invokevirtual 172) (len := 3) (ax := [0, 158, 3, 5, 0, 0, 0, 1231, 1233, 89, 119, 1234]) (by decide +kernel))).trans (q_call0)
theorem e191_48 : mr191 S P 48 L st sh M c s = (mr191 S P 52 L st sh M c s) := propext (mv_R_iff (i := .goto 4) (len := 3) (ax := [52]) (by decide +kernel))
theorem e191_51 : mr191 S P 51 L st sh M c s = (mr191 S P 52 L (.int (nI 0) :: st) sh M c s) := propext (mv_R_iff (i := .iconst 0) (len := 1) (ax := []) (by decide +kernel))
theorem e191_52 {y : Int32} {x : Int32} : mr191 S P 52 L (.int y :: .int x :: st) sh M c s = (mr191 S P 53 L (.int (x + y) :: st) sh M c s) := propext (mv_R_iff (i := .iadd) (len := 1) (ax := []) (by decide +kernel))
theorem e191_53 {x : Int32} : mr191 S P 53 L (.int x :: st) sh M c s = (q_hs L 2 ∧ mr191 S P 54 (L.set 2 (some (.int x))) st sh M c s) := (propext (mv_R_iff (i := .istore_n 2) (len := 1) (ax := []) (by decide +kernel))).trans (q_st_eq (K := fun L => mr191 S P 54 L st sh M c s))
theorem e191_54 : mr191 S P 54 L st sh M c s = ((q_isI (q_gv L 3) ∧ q_hs L 3) ∧ mr191 S P 57 (L.set 3 (some (q_inc (q_gv L 3) (nI 1)))) st sh M c s) := (propext (mv_R_iff (i := .iinc 3 1) (len := 3) (ax := []) (by decide +kernel))).trans (q_inc_eq (K := fun L => mr191 S P 57 L st sh M c s))
theorem e191_57 : mr191 S P 57 L st sh M c s = (mr191 S P 4 L st sh M c s) := propext (mv_R_iff (i := .goto (-53)) (len := 3) (ax := [4]) (by decide +kernel))
theorem e191_60 : mr191 S P 60 L st sh M c s = (q_isI (q_gv L 2) ∧ mr191 S P 61 L (q_gv L 2 :: st) sh M c s) := (propext (mv_R_iff (i := .iload_n 2) (len := 1) (ax := []) (by decide +kernel))).trans (q_ldI_eq (K := fun st => mr191 S P 61 L st sh M c s))
theorem e191_61 {x : Int32} : mr191 S P 61 L [.int x] sh M c s = (mv_nr 0 x ∧ P (some (.int x)) sh M) := propext (mv_R_iff (i := .ireturn) (len := 1) (ax := [0]) (by decide +kernel))
-- 192: TurnedTabletsModel.hole(II)I
def mk192 : mv_Cd := [
  (0, .aload_n 0, 1, []),
  (1, .iload_n 1, 1, []),
  (2, .invokevirtual 197, 3, [0, 181, 2, 5, 0, 0, 0, 1163, 1165, 79, 119, 1166]),
  (5, .ifCond .eq 28, 3, [33]),
  (8, .iload_n 2, 1, []),
  (9, .i2l, 1, []),
  (10, .lconst 0, 1, []),
  (11, .ldc2_w 200, 3, [1175, 3]),
  (14, .invokestatic 92, 3, [3, 144, 3, 0, 0, 0, 0, 1007, 1008, 119, 1009]),
  (17, .ifCond .eq 16, 3, [33]),
  (20, .aload_n 0, 1, []),
  (21, .getfield 16, 3, [1030, 0, 5, 5]),
  (24, .iconst 4, 1, []),
  (25, .iload_n 1, 1, []),
  (26, .imul, 1, []),
  (27, .iload_n 2, 1, []),
  (28, .iadd, 1, []),
  (29, .iaload, 1, []),
  (30, .goto 4, 3, [34]),
  (33, .iconst (-1), 1, []),
  (34, .ireturn, 1, [0])]
def mr192 (S : Nat → mv_Sp) (P : mv_Post) : mv_Kt := mv_R mv_DF mk192 S (0, 0) P
theorem e192_0 : mr192 S P 0 L st sh M c s = (q_isA (q_gv L 0) ∧ mr192 S P 1 L (q_gv L 0 :: st) sh M c s) := (propext (mv_R_iff (i := .aload_n 0) (len := 1) (ax := []) (by decide +kernel))).trans (q_ldA_eq (K := fun st => mr192 S P 1 L st sh M c s))
theorem e192_1 : mr192 S P 1 L st sh M c s = (q_isI (q_gv L 1) ∧ mr192 S P 2 L (q_gv L 1 :: st) sh M c s) := (propext (mv_R_iff (i := .iload_n 1) (len := 1) (ax := []) (by decide +kernel))).trans (q_ldI_eq (K := fun st => mr192 S P 2 L st sh M c s))
theorem e192_2 {v2 : Value} {v1 : Value} : mr192 S P 2 L (v2 :: v1 :: st) sh M c s = (mv_ss st ≤ 8 ∧ c ≤ 0 ∧ s ≤ 0 ∧ mv_isO sh (some v1) 5 ∧ mv_kal S 181 [v1, v2] sh M (mr192 S P) 5 L st c s) := (propext (mv_R_iff (i := .invokevirtual 197) (len := 3) (ax := [0, 181, 2, 5, 0, 0, 0, 1163, 1165, 79, 119, 1166]) (by decide +kernel))).trans (q_call0)
theorem e192_5 {x : Int32} : mr192 S P 5 L (.int x :: st) sh M c s = (if x = nI 0 then mr192 S P 33 L st sh M c s else mr192 S P 8 L st sh M c s) := (propext (mv_R_iff (i := .ifCond .eq 28) (len := 3) (ax := [33]) (by decide +kernel))).trans (q_br)
theorem e192_8 : mr192 S P 8 L st sh M c s = (q_isI (q_gv L 2) ∧ mr192 S P 9 L (q_gv L 2 :: st) sh M c s) := (propext (mv_R_iff (i := .iload_n 2) (len := 1) (ax := []) (by decide +kernel))).trans (q_ldI_eq (K := fun st => mr192 S P 9 L st sh M c s))
theorem e192_9 {x : Int32} : mr192 S P 9 L (.int x :: st) sh M c s = (mr192 S P 10 L (.long x.toInt64 :: st) sh M c s) := propext (mv_R_iff (i := .i2l) (len := 1) (ax := []) (by decide +kernel))
theorem e192_10 : mr192 S P 10 L st sh M c s = (mr192 S P 11 L (.long (lN 0) :: st) sh M c s) := propext (mv_R_iff (i := .lconst 0) (len := 1) (ax := []) (by decide +kernel))
theorem e192_11 : mr192 S P 11 L st sh M c s = (mr192 S P 14 L (.long (lN 3) :: st) sh M c s) := propext (mv_R_iff (i := .ldc2_w 200) (len := 3) (ax := [1175, 3]) (by decide +kernel))
theorem e192_14 {v3 : Value} {v2 : Value} {v1 : Value} : mr192 S P 14 L (v3 :: v2 :: v1 :: st) sh M c s = (mv_ss st ≤ 8 ∧ c ≤ 0 ∧ s ≤ 0 ∧ True ∧ mv_kal S 144 [v1, v2, v3] sh M (mr192 S P) 17 L st c s) := (propext (mv_R_iff (i := .invokestatic 92) (len := 3) (ax := [3, 144, 3, 0, 0, 0, 0, 1007, 1008, 119, 1009]) (by decide +kernel))).trans (q_call3)
theorem e192_17 {x : Int32} : mr192 S P 17 L (.int x :: st) sh M c s = (if x = nI 0 then mr192 S P 33 L st sh M c s else mr192 S P 20 L st sh M c s) := (propext (mv_R_iff (i := .ifCond .eq 16) (len := 3) (ax := [33]) (by decide +kernel))).trans (q_br)
theorem e192_20 : mr192 S P 20 L st sh M c s = (q_isA (q_gv L 0) ∧ mr192 S P 21 L (q_gv L 0 :: st) sh M c s) := (propext (mv_R_iff (i := .aload_n 0) (len := 1) (ax := []) (by decide +kernel))).trans (q_ldA_eq (K := fun st => mr192 S P 21 L st sh M c s))
theorem e192_21 {a : Nat} : mr192 S P 21 L (.ref a :: st) sh M c s = (mv_kgf sh M a 5 5 (mr192 S P) 24 L st c s) := propext (mv_R_iff (i := .getfield 16) (len := 3) (ax := [1030, 0, 5, 5]) (by decide +kernel))
theorem e192_24 : mr192 S P 24 L st sh M c s = (mr192 S P 25 L (.int (nI 4) :: st) sh M c s) := propext (mv_R_iff (i := .iconst 4) (len := 1) (ax := []) (by decide +kernel))
theorem e192_25 : mr192 S P 25 L st sh M c s = (q_isI (q_gv L 1) ∧ mr192 S P 26 L (q_gv L 1 :: st) sh M c s) := (propext (mv_R_iff (i := .iload_n 1) (len := 1) (ax := []) (by decide +kernel))).trans (q_ldI_eq (K := fun st => mr192 S P 26 L st sh M c s))
theorem e192_26 {y : Int32} {x : Int32} : mr192 S P 26 L (.int y :: .int x :: st) sh M c s = (mr192 S P 27 L (.int (x * y) :: st) sh M c s) := propext (mv_R_iff (i := .imul) (len := 1) (ax := []) (by decide +kernel))
theorem e192_27 : mr192 S P 27 L st sh M c s = (q_isI (q_gv L 2) ∧ mr192 S P 28 L (q_gv L 2 :: st) sh M c s) := (propext (mv_R_iff (i := .iload_n 2) (len := 1) (ax := []) (by decide +kernel))).trans (q_ldI_eq (K := fun st => mr192 S P 28 L st sh M c s))
theorem e192_28 {y : Int32} {x : Int32} : mr192 S P 28 L (.int y :: .int x :: st) sh M c s = (mr192 S P 29 L (.int (x + y) :: st) sh M c s) := propext (mv_R_iff (i := .iadd) (len := 1) (ax := []) (by decide +kernel))
theorem e192_29 {i : Int32} {a : Nat} : mr192 S P 29 L (.int i :: .ref a :: st) sh M c s = (mv_kld sh M a i (mr192 S P) 30 L st c s) := propext (mv_R_iff (i := .iaload) (len := 1) (ax := []) (by decide +kernel))
theorem e192_30 : mr192 S P 30 L st sh M c s = (mr192 S P 34 L st sh M c s) := propext (mv_R_iff (i := .goto 4) (len := 3) (ax := [34]) (by decide +kernel))
theorem e192_33 : mr192 S P 33 L st sh M c s = (mr192 S P 34 L (.int (Int32.ofInt (-1)) :: st) sh M c s) := propext (mv_R_iff (i := .iconst (-1)) (len := 1) (ax := []) (by decide +kernel))
theorem e192_34 {x : Int32} : mr192 S P 34 L [.int x] sh M c s = (mv_nr 0 x ∧ P (some (.int x)) sh M) := propext (mv_R_iff (i := .ireturn) (len := 1) (ax := [0]) (by decide +kernel))
-- 193: TurnedTabletsModel.isPack(I)Z
def mk193 : mv_Cd := [
  (0, .iload_n 1, 1, []),
  (1, .i2l, 1, []),
  (2, .lconst 0, 1, []),
  (3, .aload_n 0, 1, []),
  (4, .getfield 154, 3, [1032, 0, 5, 7]),
  (7, .iconst 1, 1, []),
  (8, .isub, 1, []),
  (9, .i2l, 1, []),
  (10, .invokestatic 92, 3, [3, 144, 3, 0, 0, 0, 0, 1007, 1008, 119, 1009]),
  (13, .ireturn, 1, [1])]
def mr193 (S : Nat → mv_Sp) (P : mv_Post) : mv_Kt := mv_R mv_DF mk193 S (0, 0) P
theorem e193_0 : mr193 S P 0 L st sh M c s = (q_isI (q_gv L 1) ∧ mr193 S P 1 L (q_gv L 1 :: st) sh M c s) := (propext (mv_R_iff (i := .iload_n 1) (len := 1) (ax := []) (by decide +kernel))).trans (q_ldI_eq (K := fun st => mr193 S P 1 L st sh M c s))
theorem e193_1 {x : Int32} : mr193 S P 1 L (.int x :: st) sh M c s = (mr193 S P 2 L (.long x.toInt64 :: st) sh M c s) := propext (mv_R_iff (i := .i2l) (len := 1) (ax := []) (by decide +kernel))
theorem e193_2 : mr193 S P 2 L st sh M c s = (mr193 S P 3 L (.long (lN 0) :: st) sh M c s) := propext (mv_R_iff (i := .lconst 0) (len := 1) (ax := []) (by decide +kernel))
theorem e193_3 : mr193 S P 3 L st sh M c s = (q_isA (q_gv L 0) ∧ mr193 S P 4 L (q_gv L 0 :: st) sh M c s) := (propext (mv_R_iff (i := .aload_n 0) (len := 1) (ax := []) (by decide +kernel))).trans (q_ldA_eq (K := fun st => mr193 S P 4 L st sh M c s))
theorem e193_4 {a : Nat} : mr193 S P 4 L (.ref a :: st) sh M c s = (mv_kgf sh M a 5 7 (mr193 S P) 7 L st c s) := propext (mv_R_iff (i := .getfield 154) (len := 3) (ax := [1032, 0, 5, 7]) (by decide +kernel))
theorem e193_7 : mr193 S P 7 L st sh M c s = (mr193 S P 8 L (.int (nI 1) :: st) sh M c s) := propext (mv_R_iff (i := .iconst 1) (len := 1) (ax := []) (by decide +kernel))
theorem e193_8 {y : Int32} {x : Int32} : mr193 S P 8 L (.int y :: .int x :: st) sh M c s = (mr193 S P 9 L (.int (x - y) :: st) sh M c s) := propext (mv_R_iff (i := .isub) (len := 1) (ax := []) (by decide +kernel))
theorem e193_9 {x : Int32} : mr193 S P 9 L (.int x :: st) sh M c s = (mr193 S P 10 L (.long x.toInt64 :: st) sh M c s) := propext (mv_R_iff (i := .i2l) (len := 1) (ax := []) (by decide +kernel))
theorem e193_10 {v3 : Value} {v2 : Value} {v1 : Value} : mr193 S P 10 L (v3 :: v2 :: v1 :: st) sh M c s = (mv_ss st ≤ 8 ∧ c ≤ 0 ∧ s ≤ 0 ∧ True ∧ mv_kal S 144 [v1, v2, v3] sh M (mr193 S P) 13 L st c s) := (propext (mv_R_iff (i := .invokestatic 92) (len := 3) (ax := [3, 144, 3, 0, 0, 0, 0, 1007, 1008, 119, 1009]) (by decide +kernel))).trans (q_call3)
theorem e193_13 {x : Int32} : mr193 S P 13 L [.int x] sh M c s = (mv_nr 1 x ∧ P (some (.int x)) sh M) := propext (mv_R_iff (i := .ireturn) (len := 1) (ax := [1]) (by decide +kernel))
-- 194: TurnedTabletsModel.isWay(I)Z
def mk194 : mv_Cd := [
  (0, .iload_n 0, 1, []),
  (1, .i2l, 1, []),
  (2, .lconst 0, 1, []),
  (3, .lconst 1, 1, []),
  (4, .invokestatic 92, 3, [3, 144, 3, 0, 0, 0, 0, 1007, 1008, 119, 1009]),
  (7, .ireturn, 1, [1])]
def mr194 (S : Nat → mv_Sp) (P : mv_Post) : mv_Kt := mv_R mv_DF mk194 S (0, 0) P
theorem e194_0 : mr194 S P 0 L st sh M c s = (q_isI (q_gv L 0) ∧ mr194 S P 1 L (q_gv L 0 :: st) sh M c s) := (propext (mv_R_iff (i := .iload_n 0) (len := 1) (ax := []) (by decide +kernel))).trans (q_ldI_eq (K := fun st => mr194 S P 1 L st sh M c s))
theorem e194_1 {x : Int32} : mr194 S P 1 L (.int x :: st) sh M c s = (mr194 S P 2 L (.long x.toInt64 :: st) sh M c s) := propext (mv_R_iff (i := .i2l) (len := 1) (ax := []) (by decide +kernel))
theorem e194_2 : mr194 S P 2 L st sh M c s = (mr194 S P 3 L (.long (lN 0) :: st) sh M c s) := propext (mv_R_iff (i := .lconst 0) (len := 1) (ax := []) (by decide +kernel))
theorem e194_3 : mr194 S P 3 L st sh M c s = (mr194 S P 4 L (.long (lN 1) :: st) sh M c s) := propext (mv_R_iff (i := .lconst 1) (len := 1) (ax := []) (by decide +kernel))
theorem e194_4 {v3 : Value} {v2 : Value} {v1 : Value} : mr194 S P 4 L (v3 :: v2 :: v1 :: st) sh M c s = (mv_ss st ≤ 8 ∧ c ≤ 0 ∧ s ≤ 0 ∧ True ∧ mv_kal S 144 [v1, v2, v3] sh M (mr194 S P) 7 L st c s) := (propext (mv_R_iff (i := .invokestatic 92) (len := 3) (ax := [3, 144, 3, 0, 0, 0, 0, 1007, 1008, 119, 1009]) (by decide +kernel))).trans (q_call3)
theorem e194_7 {x : Int32} : mr194 S P 7 L [.int x] sh M c s = (mv_nr 1 x ∧ P (some (.int x)) sh M) := propext (mv_R_iff (i := .ireturn) (len := 1) (ax := [1]) (by decide +kernel))
-- 195: TurnedTabletsModel.jammed()I
def mk195 : mv_Cd := [
  (0, .aload_n 0, 1, []),
  (1, .iconst 0, 1, []),
  (2, .sipush 8789, 3, []),
  (5, .invokevirtual 205, 3, [0, 156, 3, 5, 0, 0, 0, 1215, 1217, 85, 119, 1218]),
  (8, .iconst 1, 1, []),
  (9, .istore_n 1, 1, []),
  (10, .iload_n 1, 1, []),
  (11, .bipush 61, 2, []),
  (13, .if_icmp .ge 61, 3, [74]),
  (16, .iconst 0, 1, []),
  (17, .istore_n 2, 1, []),
  (18, .iconst 0, 1, []),
  (19, .istore_n 3, 1, []),
  (20, .iload_n 3, 1, []),
  (21, .aload_n 0, 1, []),
  (22, .getfield 160, 3, [1035, 0, 5, 10]),
  (25, .if_icmp .ge 37, 3, [62]),
  (28, .iload_n 2, 1, []),
  (29, .aload_n 0, 1, []),
  (30, .sipush 8789, 3, []),
  (33, .aload_n 0, 1, []),
  (34, .getfield 25, 3, [1036, 0, 5, 11]),
  (37, .iload_n 3, 1, []),
  (38, .iaload, 1, []),
  (39, .bipush 10, 2, []),
  (41, .idiv, 1, []),
  (42, .aload_n 0, 1, []),
  (43, .getfield 25, 3, [1036, 0, 5, 11]),
  (46, .iload_n 3, 1, []),
  (47, .iaload, 1, []),
  (48, .bipush 10, 2, []),
  (50, .irem, 1, []),
  (51, .invokevirtual 186, 3, [0, 161, 4, 5, 0, 0, 0, 1223, 1225, 87, 119, 1226]),
  (54, .iadd, 1, []),
  (55, .istore_n 2, 1, []),
  (56, .iinc 3 1, 3, []),
  (59, .goto (-39), 3, [20]),
  (62, .iload_n 2, 1, []),
  (63, .ifCond .le 5, 3, [68]),
  (66, .iload_n 1, 1, []),
  (67, .ireturn, 1, [0]),
  (68, .iinc 1 1, 3, []),
  (71, .goto (-61), 3, [10]),
  (74, .bipush (-4), 2, []),
  (76, .ireturn, 1, [0])]
def mr195 (S : Nat → mv_Sp) (P : mv_Post) : mv_Kt := mv_R mv_DF mk195 S (0, 0) P
theorem e195_0 : mr195 S P 0 L st sh M c s = (q_isA (q_gv L 0) ∧ mr195 S P 1 L (q_gv L 0 :: st) sh M c s) := (propext (mv_R_iff (i := .aload_n 0) (len := 1) (ax := []) (by decide +kernel))).trans (q_ldA_eq (K := fun st => mr195 S P 1 L st sh M c s))
theorem e195_1 : mr195 S P 1 L st sh M c s = (mr195 S P 2 L (.int (nI 0) :: st) sh M c s) := propext (mv_R_iff (i := .iconst 0) (len := 1) (ax := []) (by decide +kernel))
theorem e195_2 : mr195 S P 2 L st sh M c s = (mr195 S P 5 L (.int (nI 8789) :: st) sh M c s) := propext (mv_R_iff (i := .sipush 8789) (len := 3) (ax := []) (by decide +kernel))
theorem e195_5 {v3 : Value} {v2 : Value} {v1 : Value} : mr195 S P 5 L (v3 :: v2 :: v1 :: st) sh M c s = (mv_ss st ≤ 8 ∧ c ≤ 0 ∧ s ≤ 0 ∧ mv_isO sh (some v1) 5 ∧ mv_kal S 156 [v1, v2, v3] sh M (mr195 S P) 8 L st c s) := (propext (mv_R_iff (i := .invokevirtual 205) (len := 3) (ax := [0, 156, 3, 5, 0, 0, 0, 1215, 1217, 85, 119, 1218]) (by decide +kernel))).trans (q_call0)
theorem e195_8 : mr195 S P 8 L st sh M c s = (mr195 S P 9 L (.int (nI 1) :: st) sh M c s) := propext (mv_R_iff (i := .iconst 1) (len := 1) (ax := []) (by decide +kernel))
theorem e195_9 {x : Int32} : mr195 S P 9 L (.int x :: st) sh M c s = (q_hs L 1 ∧ mr195 S P 10 (L.set 1 (some (.int x))) st sh M c s) := (propext (mv_R_iff (i := .istore_n 1) (len := 1) (ax := []) (by decide +kernel))).trans (q_st_eq (K := fun L => mr195 S P 10 L st sh M c s))
theorem e195_10 : mr195 S P 10 L st sh M c s = (q_isI (q_gv L 1) ∧ mr195 S P 11 L (q_gv L 1 :: st) sh M c s) := (propext (mv_R_iff (i := .iload_n 1) (len := 1) (ax := []) (by decide +kernel))).trans (q_ldI_eq (K := fun st => mr195 S P 11 L st sh M c s))
theorem e195_11 : mr195 S P 11 L st sh M c s = (mr195 S P 13 L (.int (nI 61) :: st) sh M c s) := propext (mv_R_iff (i := .bipush 61) (len := 2) (ax := []) (by decide +kernel))
theorem e195_13 {y : Int32} {x : Int32} : mr195 S P 13 L (.int y :: .int x :: st) sh M c s = (if y ≤ x then mr195 S P 74 L st sh M c s else mr195 S P 16 L st sh M c s) := (propext (mv_R_iff (i := .if_icmp .ge 61) (len := 3) (ax := [74]) (by decide +kernel))).trans (q_br)
theorem e195_16 : mr195 S P 16 L st sh M c s = (mr195 S P 17 L (.int (nI 0) :: st) sh M c s) := propext (mv_R_iff (i := .iconst 0) (len := 1) (ax := []) (by decide +kernel))
theorem e195_17 {x : Int32} : mr195 S P 17 L (.int x :: st) sh M c s = (q_hs L 2 ∧ mr195 S P 18 (L.set 2 (some (.int x))) st sh M c s) := (propext (mv_R_iff (i := .istore_n 2) (len := 1) (ax := []) (by decide +kernel))).trans (q_st_eq (K := fun L => mr195 S P 18 L st sh M c s))
theorem e195_18 : mr195 S P 18 L st sh M c s = (mr195 S P 19 L (.int (nI 0) :: st) sh M c s) := propext (mv_R_iff (i := .iconst 0) (len := 1) (ax := []) (by decide +kernel))
theorem e195_19 {x : Int32} : mr195 S P 19 L (.int x :: st) sh M c s = (q_hs L 3 ∧ mr195 S P 20 (L.set 3 (some (.int x))) st sh M c s) := (propext (mv_R_iff (i := .istore_n 3) (len := 1) (ax := []) (by decide +kernel))).trans (q_st_eq (K := fun L => mr195 S P 20 L st sh M c s))
theorem e195_20 : mr195 S P 20 L st sh M c s = (q_isI (q_gv L 3) ∧ mr195 S P 21 L (q_gv L 3 :: st) sh M c s) := (propext (mv_R_iff (i := .iload_n 3) (len := 1) (ax := []) (by decide +kernel))).trans (q_ldI_eq (K := fun st => mr195 S P 21 L st sh M c s))
theorem e195_21 : mr195 S P 21 L st sh M c s = (q_isA (q_gv L 0) ∧ mr195 S P 22 L (q_gv L 0 :: st) sh M c s) := (propext (mv_R_iff (i := .aload_n 0) (len := 1) (ax := []) (by decide +kernel))).trans (q_ldA_eq (K := fun st => mr195 S P 22 L st sh M c s))
theorem e195_22 {a : Nat} : mr195 S P 22 L (.ref a :: st) sh M c s = (mv_kgf sh M a 5 10 (mr195 S P) 25 L st c s) := propext (mv_R_iff (i := .getfield 160) (len := 3) (ax := [1035, 0, 5, 10]) (by decide +kernel))
theorem e195_25 {y : Int32} {x : Int32} : mr195 S P 25 L (.int y :: .int x :: st) sh M c s = (if y ≤ x then mr195 S P 62 L st sh M c s else mr195 S P 28 L st sh M c s) := (propext (mv_R_iff (i := .if_icmp .ge 37) (len := 3) (ax := [62]) (by decide +kernel))).trans (q_br)
theorem e195_28 : mr195 S P 28 L st sh M c s = (q_isI (q_gv L 2) ∧ mr195 S P 29 L (q_gv L 2 :: st) sh M c s) := (propext (mv_R_iff (i := .iload_n 2) (len := 1) (ax := []) (by decide +kernel))).trans (q_ldI_eq (K := fun st => mr195 S P 29 L st sh M c s))
theorem e195_29 : mr195 S P 29 L st sh M c s = (q_isA (q_gv L 0) ∧ mr195 S P 30 L (q_gv L 0 :: st) sh M c s) := (propext (mv_R_iff (i := .aload_n 0) (len := 1) (ax := []) (by decide +kernel))).trans (q_ldA_eq (K := fun st => mr195 S P 30 L st sh M c s))
theorem e195_30 : mr195 S P 30 L st sh M c s = (mr195 S P 33 L (.int (nI 8789) :: st) sh M c s) := propext (mv_R_iff (i := .sipush 8789) (len := 3) (ax := []) (by decide +kernel))
theorem e195_33 : mr195 S P 33 L st sh M c s = (q_isA (q_gv L 0) ∧ mr195 S P 34 L (q_gv L 0 :: st) sh M c s) := (propext (mv_R_iff (i := .aload_n 0) (len := 1) (ax := []) (by decide +kernel))).trans (q_ldA_eq (K := fun st => mr195 S P 34 L st sh M c s))
theorem e195_34 {a : Nat} : mr195 S P 34 L (.ref a :: st) sh M c s = (mv_kgf sh M a 5 11 (mr195 S P) 37 L st c s) := propext (mv_R_iff (i := .getfield 25) (len := 3) (ax := [1036, 0, 5, 11]) (by decide +kernel))
theorem e195_37 : mr195 S P 37 L st sh M c s = (q_isI (q_gv L 3) ∧ mr195 S P 38 L (q_gv L 3 :: st) sh M c s) := (propext (mv_R_iff (i := .iload_n 3) (len := 1) (ax := []) (by decide +kernel))).trans (q_ldI_eq (K := fun st => mr195 S P 38 L st sh M c s))
theorem e195_38 {i : Int32} {a : Nat} : mr195 S P 38 L (.int i :: .ref a :: st) sh M c s = (mv_kld sh M a i (mr195 S P) 39 L st c s) := propext (mv_R_iff (i := .iaload) (len := 1) (ax := []) (by decide +kernel))
theorem e195_39 : mr195 S P 39 L st sh M c s = (mr195 S P 41 L (.int (nI 10) :: st) sh M c s) := propext (mv_R_iff (i := .bipush 10) (len := 2) (ax := []) (by decide +kernel))
theorem e195_41 {y : Int32} {x : Int32} : mr195 S P 41 L (.int y :: .int x :: st) sh M c s = (¬ y = nI 0 ∧ mr195 S P 42 L (.int (x / y) :: st) sh M c s) := propext (mv_R_iff (i := .idiv) (len := 1) (ax := []) (by decide +kernel))
theorem e195_42 : mr195 S P 42 L st sh M c s = (q_isA (q_gv L 0) ∧ mr195 S P 43 L (q_gv L 0 :: st) sh M c s) := (propext (mv_R_iff (i := .aload_n 0) (len := 1) (ax := []) (by decide +kernel))).trans (q_ldA_eq (K := fun st => mr195 S P 43 L st sh M c s))
theorem e195_43 {a : Nat} : mr195 S P 43 L (.ref a :: st) sh M c s = (mv_kgf sh M a 5 11 (mr195 S P) 46 L st c s) := propext (mv_R_iff (i := .getfield 25) (len := 3) (ax := [1036, 0, 5, 11]) (by decide +kernel))
theorem e195_46 : mr195 S P 46 L st sh M c s = (q_isI (q_gv L 3) ∧ mr195 S P 47 L (q_gv L 3 :: st) sh M c s) := (propext (mv_R_iff (i := .iload_n 3) (len := 1) (ax := []) (by decide +kernel))).trans (q_ldI_eq (K := fun st => mr195 S P 47 L st sh M c s))
theorem e195_47 {i : Int32} {a : Nat} : mr195 S P 47 L (.int i :: .ref a :: st) sh M c s = (mv_kld sh M a i (mr195 S P) 48 L st c s) := propext (mv_R_iff (i := .iaload) (len := 1) (ax := []) (by decide +kernel))
theorem e195_48 : mr195 S P 48 L st sh M c s = (mr195 S P 50 L (.int (nI 10) :: st) sh M c s) := propext (mv_R_iff (i := .bipush 10) (len := 2) (ax := []) (by decide +kernel))
theorem e195_50 {y : Int32} {x : Int32} : mr195 S P 50 L (.int y :: .int x :: st) sh M c s = (¬ y = nI 0 ∧ mr195 S P 51 L (.int (q_rm x y) :: st) sh M c s) := propext (mv_R_iff (i := .irem) (len := 1) (ax := []) (by decide +kernel))
theorem e195_51 {v4 : Value} {v3 : Value} {v2 : Value} {v1 : Value} : mr195 S P 51 L (v4 :: v3 :: v2 :: v1 :: st) sh M c s = (mv_ss st ≤ 8 ∧ c ≤ 0 ∧ s ≤ 0 ∧ mv_isO sh (some v1) 5 ∧ mv_kal S 161 [v1, v2, v3, v4] sh M (mr195 S P) 54 L st c s) := (propext (mv_R_iff (i := .invokevirtual 186) (len := 3) (ax := [0, 161, 4, 5, 0, 0, 0, 1223, 1225, 87, 119, 1226]) (by decide +kernel))).trans (q_call0)
theorem e195_54 {y : Int32} {x : Int32} : mr195 S P 54 L (.int y :: .int x :: st) sh M c s = (mr195 S P 55 L (.int (x + y) :: st) sh M c s) := propext (mv_R_iff (i := .iadd) (len := 1) (ax := []) (by decide +kernel))
theorem e195_55 {x : Int32} : mr195 S P 55 L (.int x :: st) sh M c s = (q_hs L 2 ∧ mr195 S P 56 (L.set 2 (some (.int x))) st sh M c s) := (propext (mv_R_iff (i := .istore_n 2) (len := 1) (ax := []) (by decide +kernel))).trans (q_st_eq (K := fun L => mr195 S P 56 L st sh M c s))
theorem e195_56 : mr195 S P 56 L st sh M c s = ((q_isI (q_gv L 3) ∧ q_hs L 3) ∧ mr195 S P 59 (L.set 3 (some (q_inc (q_gv L 3) (nI 1)))) st sh M c s) := (propext (mv_R_iff (i := .iinc 3 1) (len := 3) (ax := []) (by decide +kernel))).trans (q_inc_eq (K := fun L => mr195 S P 59 L st sh M c s))
theorem e195_59 : mr195 S P 59 L st sh M c s = (mr195 S P 20 L st sh M c s) := propext (mv_R_iff (i := .goto (-39)) (len := 3) (ax := [20]) (by decide +kernel))
theorem e195_62 : mr195 S P 62 L st sh M c s = (q_isI (q_gv L 2) ∧ mr195 S P 63 L (q_gv L 2 :: st) sh M c s) := (propext (mv_R_iff (i := .iload_n 2) (len := 1) (ax := []) (by decide +kernel))).trans (q_ldI_eq (K := fun st => mr195 S P 63 L st sh M c s))
theorem e195_63 {x : Int32} : mr195 S P 63 L (.int x :: st) sh M c s = (if x ≤ nI 0 then mr195 S P 68 L st sh M c s else mr195 S P 66 L st sh M c s) := (propext (mv_R_iff (i := .ifCond .le 5) (len := 3) (ax := [68]) (by decide +kernel))).trans (q_br)
theorem e195_66 : mr195 S P 66 L st sh M c s = (q_isI (q_gv L 1) ∧ mr195 S P 67 L (q_gv L 1 :: st) sh M c s) := (propext (mv_R_iff (i := .iload_n 1) (len := 1) (ax := []) (by decide +kernel))).trans (q_ldI_eq (K := fun st => mr195 S P 67 L st sh M c s))
theorem e195_67 {x : Int32} : mr195 S P 67 L [.int x] sh M c s = (mv_nr 0 x ∧ P (some (.int x)) sh M) := propext (mv_R_iff (i := .ireturn) (len := 1) (ax := [0]) (by decide +kernel))
theorem e195_68 : mr195 S P 68 L st sh M c s = ((q_isI (q_gv L 1) ∧ q_hs L 1) ∧ mr195 S P 71 (L.set 1 (some (q_inc (q_gv L 1) (nI 1)))) st sh M c s) := (propext (mv_R_iff (i := .iinc 1 1) (len := 3) (ax := []) (by decide +kernel))).trans (q_inc_eq (K := fun L => mr195 S P 71 L st sh M c s))
theorem e195_71 : mr195 S P 71 L st sh M c s = (mr195 S P 10 L st sh M c s) := propext (mv_R_iff (i := .goto (-61)) (len := 3) (ax := [10]) (by decide +kernel))
theorem e195_74 : mr195 S P 74 L st sh M c s = (mr195 S P 76 L (.int (Int32.ofInt (-4)) :: st) sh M c s) := (propext (mv_R_iff (i := .bipush (-4)) (len := 2) (ax := []) (by decide +kernel))).trans (congrArg (fun z => mr195 S P 76 L (.int z :: st) sh M c s) (by decide : (Int8.ofInt (-4)).toInt32 = Int32.ofInt (-4)))
theorem e195_76 {x : Int32} : mr195 S P 76 L [.int x] sh M c s = (mv_nr 0 x ∧ P (some (.int x)) sh M) := propext (mv_R_iff (i := .ireturn) (len := 1) (ax := [0]) (by decide +kernel))
-- 196: TurnedTabletsModel.keep()I
def mk196 : mv_Cd := [
  (0, .aload_n 0, 1, []),
  (1, .getfield 166, 3, [1027, 0, 5, 2]),
  (4, .iconst 2, 1, []),
  (5, .if_icmp .ne 6, 3, [11]),
  (8, .bipush (-3), 2, []),
  (10, .ireturn, 1, [0]),
  (11, .aload_n 0, 1, []),
  (12, .iconst 0, 1, []),
  (13, .sipush 7191, 3, []),
  (16, .sipush 799, 3, []),
  (19, .aload_n 0, 1, []),
  (20, .getfield 166, 3, [1027, 0, 5, 2]),
  (23, .imul, 1, []),
  (24, .iadd, 1, []),
  (25, .invokevirtual 205, 3, [0, 156, 3, 5, 0, 0, 0, 1215, 1217, 85, 119, 1218]),
  (28, .aload_n 0, 1, []),
  (29, .dup, 1, []),
  (30, .getfield 166, 3, [1027, 0, 5, 2]),
  (33, .iconst 1, 1, []),
  (34, .iadd, 1, []),
  (35, .putfield 166, 3, [1027, 0, 5, 2, 0]),
  (38, .aload_n 0, 1, []),
  (39, .getfield 166, 3, [1027, 0, 5, 2]),
  (42, .ireturn, 1, [0])]
def mr196 (S : Nat → mv_Sp) (P : mv_Post) : mv_Kt := mv_R mv_DF mk196 S (0, 0) P
theorem e196_0 : mr196 S P 0 L st sh M c s = (q_isA (q_gv L 0) ∧ mr196 S P 1 L (q_gv L 0 :: st) sh M c s) := (propext (mv_R_iff (i := .aload_n 0) (len := 1) (ax := []) (by decide +kernel))).trans (q_ldA_eq (K := fun st => mr196 S P 1 L st sh M c s))
theorem e196_1 {a : Nat} : mr196 S P 1 L (.ref a :: st) sh M c s = (mv_kgf sh M a 5 2 (mr196 S P) 4 L st c s) := propext (mv_R_iff (i := .getfield 166) (len := 3) (ax := [1027, 0, 5, 2]) (by decide +kernel))
theorem e196_4 : mr196 S P 4 L st sh M c s = (mr196 S P 5 L (.int (nI 2) :: st) sh M c s) := propext (mv_R_iff (i := .iconst 2) (len := 1) (ax := []) (by decide +kernel))
theorem e196_5 {y : Int32} {x : Int32} : mr196 S P 5 L (.int y :: .int x :: st) sh M c s = (if x = y then mr196 S P 8 L st sh M c s else mr196 S P 11 L st sh M c s) := (propext (mv_R_iff (i := .if_icmp .ne 6) (len := 3) (ax := [11]) (by decide +kernel))).trans (q_br')
theorem e196_8 : mr196 S P 8 L st sh M c s = (mr196 S P 10 L (.int (Int32.ofInt (-3)) :: st) sh M c s) := (propext (mv_R_iff (i := .bipush (-3)) (len := 2) (ax := []) (by decide +kernel))).trans (congrArg (fun z => mr196 S P 10 L (.int z :: st) sh M c s) (by decide : (Int8.ofInt (-3)).toInt32 = Int32.ofInt (-3)))
theorem e196_10 {x : Int32} : mr196 S P 10 L [.int x] sh M c s = (mv_nr 0 x ∧ P (some (.int x)) sh M) := propext (mv_R_iff (i := .ireturn) (len := 1) (ax := [0]) (by decide +kernel))
theorem e196_11 : mr196 S P 11 L st sh M c s = (q_isA (q_gv L 0) ∧ mr196 S P 12 L (q_gv L 0 :: st) sh M c s) := (propext (mv_R_iff (i := .aload_n 0) (len := 1) (ax := []) (by decide +kernel))).trans (q_ldA_eq (K := fun st => mr196 S P 12 L st sh M c s))
theorem e196_12 : mr196 S P 12 L st sh M c s = (mr196 S P 13 L (.int (nI 0) :: st) sh M c s) := propext (mv_R_iff (i := .iconst 0) (len := 1) (ax := []) (by decide +kernel))
theorem e196_13 : mr196 S P 13 L st sh M c s = (mr196 S P 16 L (.int (nI 7191) :: st) sh M c s) := propext (mv_R_iff (i := .sipush 7191) (len := 3) (ax := []) (by decide +kernel))
theorem e196_16 : mr196 S P 16 L st sh M c s = (mr196 S P 19 L (.int (nI 799) :: st) sh M c s) := propext (mv_R_iff (i := .sipush 799) (len := 3) (ax := []) (by decide +kernel))
theorem e196_19 : mr196 S P 19 L st sh M c s = (q_isA (q_gv L 0) ∧ mr196 S P 20 L (q_gv L 0 :: st) sh M c s) := (propext (mv_R_iff (i := .aload_n 0) (len := 1) (ax := []) (by decide +kernel))).trans (q_ldA_eq (K := fun st => mr196 S P 20 L st sh M c s))
theorem e196_20 {a : Nat} : mr196 S P 20 L (.ref a :: st) sh M c s = (mv_kgf sh M a 5 2 (mr196 S P) 23 L st c s) := propext (mv_R_iff (i := .getfield 166) (len := 3) (ax := [1027, 0, 5, 2]) (by decide +kernel))
theorem e196_23 {y : Int32} {x : Int32} : mr196 S P 23 L (.int y :: .int x :: st) sh M c s = (mr196 S P 24 L (.int (x * y) :: st) sh M c s) := propext (mv_R_iff (i := .imul) (len := 1) (ax := []) (by decide +kernel))
theorem e196_24 {y : Int32} {x : Int32} : mr196 S P 24 L (.int y :: .int x :: st) sh M c s = (mr196 S P 25 L (.int (x + y) :: st) sh M c s) := propext (mv_R_iff (i := .iadd) (len := 1) (ax := []) (by decide +kernel))
theorem e196_25 {v3 : Value} {v2 : Value} {v1 : Value} : mr196 S P 25 L (v3 :: v2 :: v1 :: st) sh M c s = (mv_ss st ≤ 8 ∧ c ≤ 0 ∧ s ≤ 0 ∧ mv_isO sh (some v1) 5 ∧ mv_kal S 156 [v1, v2, v3] sh M (mr196 S P) 28 L st c s) := (propext (mv_R_iff (i := .invokevirtual 205) (len := 3) (ax := [0, 156, 3, 5, 0, 0, 0, 1215, 1217, 85, 119, 1218]) (by decide +kernel))).trans (q_call0)
theorem e196_28 : mr196 S P 28 L st sh M c s = (q_isA (q_gv L 0) ∧ mr196 S P 29 L (q_gv L 0 :: st) sh M c s) := (propext (mv_R_iff (i := .aload_n 0) (len := 1) (ax := []) (by decide +kernel))).trans (q_ldA_eq (K := fun st => mr196 S P 29 L st sh M c s))
theorem e196_29 {x : Int32} : mr196 S P 29 L (.int x :: st) sh M c s = (mr196 S P 30 L (.int x :: .int x :: st) sh M c s) := propext (mv_R_iff (i := .dup) (len := 1) (ax := []) (by decide +kernel))
theorem e196_29r {x : Nat} : mr196 S P 29 L (.ref x :: st) sh M c s = (mr196 S P 30 L (.ref x :: .ref x :: st) sh M c s) := propext (mv_R_iff (i := .dup) (len := 1) (ax := []) (by decide +kernel))
theorem e196_30 {a : Nat} : mr196 S P 30 L (.ref a :: st) sh M c s = (mv_kgf sh M a 5 2 (mr196 S P) 33 L st c s) := propext (mv_R_iff (i := .getfield 166) (len := 3) (ax := [1027, 0, 5, 2]) (by decide +kernel))
theorem e196_33 : mr196 S P 33 L st sh M c s = (mr196 S P 34 L (.int (nI 1) :: st) sh M c s) := propext (mv_R_iff (i := .iconst 1) (len := 1) (ax := []) (by decide +kernel))
theorem e196_34 {y : Int32} {x : Int32} : mr196 S P 34 L (.int y :: .int x :: st) sh M c s = (mr196 S P 35 L (.int (x + y) :: st) sh M c s) := propext (mv_R_iff (i := .iadd) (len := 1) (ax := []) (by decide +kernel))
theorem e196_35 {x : Int32} {a : Nat} : mr196 S P 35 L (.int x :: .ref a :: st) sh M c s = (True ∧ mv_kpf sh M a 5 2 x (mr196 S P) 38 L st c s) := propext (mv_R_iff (i := .putfield 166) (len := 3) (ax := [1027, 0, 5, 2, 0]) (by decide +kernel))
theorem e196_38 : mr196 S P 38 L st sh M c s = (q_isA (q_gv L 0) ∧ mr196 S P 39 L (q_gv L 0 :: st) sh M c s) := (propext (mv_R_iff (i := .aload_n 0) (len := 1) (ax := []) (by decide +kernel))).trans (q_ldA_eq (K := fun st => mr196 S P 39 L st sh M c s))
theorem e196_39 {a : Nat} : mr196 S P 39 L (.ref a :: st) sh M c s = (mv_kgf sh M a 5 2 (mr196 S P) 42 L st c s) := propext (mv_R_iff (i := .getfield 166) (len := 3) (ax := [1027, 0, 5, 2]) (by decide +kernel))
theorem e196_42 {x : Int32} : mr196 S P 42 L [.int x] sh M c s = (mv_nr 0 x ∧ P (some (.int x)) sh M) := propext (mv_R_iff (i := .ireturn) (len := 1) (ax := [0]) (by decide +kernel))
-- 197: TurnedTabletsModel.waysOn(II)I
def mk197 : mv_Cd := [
  (0, .iconst 0, 1, []),
  (1, .istore_n 3, 1, []),
  (2, .iconst 0, 1, []),
  (3, .istore 4, 2, []),
  (5, .iload 4, 2, []),
  (7, .iconst 2, 1, []),
  (8, .aload_n 0, 1, []),
  (9, .getfield 154, 3, [1032, 0, 5, 7]),
  (12, .imul, 1, []),
  (13, .if_icmp .ge 47, 3, [60]),
  (16, .iload_n 1, 1, []),
  (17, .aload_n 0, 1, []),
  (18, .getfield 52, 3, [1053, 0, 5, 28]),
  (21, .iload 4, 2, []),
  (23, .iaload, 1, []),
  (24, .invokestatic 230, 3, [3, 171, 2, 0, 0, 0, 0, 1319, 1320, 119, 1321]),
  (27, .istore 5, 2, []),
  (29, .iload_n 3, 1, []),
  (30, .aload_n 0, 1, []),
  (31, .getfield 55, 3, [1054, 0, 5, 29]),
  (34, .iload 5, 2, []),
  (36, .iaload, 1, []),
  (37, .iload_n 2, 1, []),
  (38, .if_icmp .ne 13, 3, [51]),
  (41, .aload_n 0, 1, []),
  (42, .getfield 74, 3, [1062, 0, 5, 37]),
  (45, .iload 5, 2, []),
  (47, .iaload, 1, []),
  (48, .goto 4, 3, [52]),
  (51, .iconst 0, 1, []),
  (52, .iadd, 1, []),
  (53, .istore_n 3, 1, []),
  (54, .iinc 4 1, 3, []),
  (57, .goto (-52), 3, [5]),
  (60, .iload_n 3, 1, []),
  (61, .ireturn, 1, [0])]
def mr197 (S : Nat → mv_Sp) (P : mv_Post) : mv_Kt := mv_R mv_DF mk197 S (0, 0) P
theorem e197_0 : mr197 S P 0 L st sh M c s = (mr197 S P 1 L (.int (nI 0) :: st) sh M c s) := propext (mv_R_iff (i := .iconst 0) (len := 1) (ax := []) (by decide +kernel))
theorem e197_1 {x : Int32} : mr197 S P 1 L (.int x :: st) sh M c s = (q_hs L 3 ∧ mr197 S P 2 (L.set 3 (some (.int x))) st sh M c s) := (propext (mv_R_iff (i := .istore_n 3) (len := 1) (ax := []) (by decide +kernel))).trans (q_st_eq (K := fun L => mr197 S P 2 L st sh M c s))
theorem e197_2 : mr197 S P 2 L st sh M c s = (mr197 S P 3 L (.int (nI 0) :: st) sh M c s) := propext (mv_R_iff (i := .iconst 0) (len := 1) (ax := []) (by decide +kernel))
theorem e197_3 {x : Int32} : mr197 S P 3 L (.int x :: st) sh M c s = (q_hs L 4 ∧ mr197 S P 5 (L.set 4 (some (.int x))) st sh M c s) := (propext (mv_R_iff (i := .istore 4) (len := 2) (ax := []) (by decide +kernel))).trans (q_st_eq (K := fun L => mr197 S P 5 L st sh M c s))
theorem e197_5 : mr197 S P 5 L st sh M c s = (q_isI (q_gv L 4) ∧ mr197 S P 7 L (q_gv L 4 :: st) sh M c s) := (propext (mv_R_iff (i := .iload 4) (len := 2) (ax := []) (by decide +kernel))).trans (q_ldI_eq (K := fun st => mr197 S P 7 L st sh M c s))
theorem e197_7 : mr197 S P 7 L st sh M c s = (mr197 S P 8 L (.int (nI 2) :: st) sh M c s) := propext (mv_R_iff (i := .iconst 2) (len := 1) (ax := []) (by decide +kernel))
theorem e197_8 : mr197 S P 8 L st sh M c s = (q_isA (q_gv L 0) ∧ mr197 S P 9 L (q_gv L 0 :: st) sh M c s) := (propext (mv_R_iff (i := .aload_n 0) (len := 1) (ax := []) (by decide +kernel))).trans (q_ldA_eq (K := fun st => mr197 S P 9 L st sh M c s))
theorem e197_9 {a : Nat} : mr197 S P 9 L (.ref a :: st) sh M c s = (mv_kgf sh M a 5 7 (mr197 S P) 12 L st c s) := propext (mv_R_iff (i := .getfield 154) (len := 3) (ax := [1032, 0, 5, 7]) (by decide +kernel))
theorem e197_12 {y : Int32} {x : Int32} : mr197 S P 12 L (.int y :: .int x :: st) sh M c s = (mr197 S P 13 L (.int (x * y) :: st) sh M c s) := propext (mv_R_iff (i := .imul) (len := 1) (ax := []) (by decide +kernel))
theorem e197_13 {y : Int32} {x : Int32} : mr197 S P 13 L (.int y :: .int x :: st) sh M c s = (if y ≤ x then mr197 S P 60 L st sh M c s else mr197 S P 16 L st sh M c s) := (propext (mv_R_iff (i := .if_icmp .ge 47) (len := 3) (ax := [60]) (by decide +kernel))).trans (q_br)
theorem e197_16 : mr197 S P 16 L st sh M c s = (q_isI (q_gv L 1) ∧ mr197 S P 17 L (q_gv L 1 :: st) sh M c s) := (propext (mv_R_iff (i := .iload_n 1) (len := 1) (ax := []) (by decide +kernel))).trans (q_ldI_eq (K := fun st => mr197 S P 17 L st sh M c s))
theorem e197_17 : mr197 S P 17 L st sh M c s = (q_isA (q_gv L 0) ∧ mr197 S P 18 L (q_gv L 0 :: st) sh M c s) := (propext (mv_R_iff (i := .aload_n 0) (len := 1) (ax := []) (by decide +kernel))).trans (q_ldA_eq (K := fun st => mr197 S P 18 L st sh M c s))
theorem e197_18 {a : Nat} : mr197 S P 18 L (.ref a :: st) sh M c s = (mv_kgf sh M a 5 28 (mr197 S P) 21 L st c s) := propext (mv_R_iff (i := .getfield 52) (len := 3) (ax := [1053, 0, 5, 28]) (by decide +kernel))
theorem e197_21 : mr197 S P 21 L st sh M c s = (q_isI (q_gv L 4) ∧ mr197 S P 23 L (q_gv L 4 :: st) sh M c s) := (propext (mv_R_iff (i := .iload 4) (len := 2) (ax := []) (by decide +kernel))).trans (q_ldI_eq (K := fun st => mr197 S P 23 L st sh M c s))
theorem e197_23 {i : Int32} {a : Nat} : mr197 S P 23 L (.int i :: .ref a :: st) sh M c s = (mv_kld sh M a i (mr197 S P) 24 L st c s) := propext (mv_R_iff (i := .iaload) (len := 1) (ax := []) (by decide +kernel))
theorem e197_24 {v2 : Value} {v1 : Value} : mr197 S P 24 L (v2 :: v1 :: st) sh M c s = (mv_ss st ≤ 8 ∧ c ≤ 0 ∧ s ≤ 0 ∧ True ∧ mv_kal S 171 [v1, v2] sh M (mr197 S P) 27 L st c s) := (propext (mv_R_iff (i := .invokestatic 230) (len := 3) (ax := [3, 171, 2, 0, 0, 0, 0, 1319, 1320, 119, 1321]) (by decide +kernel))).trans (q_call3)
theorem e197_27 {x : Int32} : mr197 S P 27 L (.int x :: st) sh M c s = (q_hs L 5 ∧ mr197 S P 29 (L.set 5 (some (.int x))) st sh M c s) := (propext (mv_R_iff (i := .istore 5) (len := 2) (ax := []) (by decide +kernel))).trans (q_st_eq (K := fun L => mr197 S P 29 L st sh M c s))
theorem e197_29 : mr197 S P 29 L st sh M c s = (q_isI (q_gv L 3) ∧ mr197 S P 30 L (q_gv L 3 :: st) sh M c s) := (propext (mv_R_iff (i := .iload_n 3) (len := 1) (ax := []) (by decide +kernel))).trans (q_ldI_eq (K := fun st => mr197 S P 30 L st sh M c s))
theorem e197_30 : mr197 S P 30 L st sh M c s = (q_isA (q_gv L 0) ∧ mr197 S P 31 L (q_gv L 0 :: st) sh M c s) := (propext (mv_R_iff (i := .aload_n 0) (len := 1) (ax := []) (by decide +kernel))).trans (q_ldA_eq (K := fun st => mr197 S P 31 L st sh M c s))
theorem e197_31 {a : Nat} : mr197 S P 31 L (.ref a :: st) sh M c s = (mv_kgf sh M a 5 29 (mr197 S P) 34 L st c s) := propext (mv_R_iff (i := .getfield 55) (len := 3) (ax := [1054, 0, 5, 29]) (by decide +kernel))
theorem e197_34 : mr197 S P 34 L st sh M c s = (q_isI (q_gv L 5) ∧ mr197 S P 36 L (q_gv L 5 :: st) sh M c s) := (propext (mv_R_iff (i := .iload 5) (len := 2) (ax := []) (by decide +kernel))).trans (q_ldI_eq (K := fun st => mr197 S P 36 L st sh M c s))
theorem e197_36 {i : Int32} {a : Nat} : mr197 S P 36 L (.int i :: .ref a :: st) sh M c s = (mv_kld sh M a i (mr197 S P) 37 L st c s) := propext (mv_R_iff (i := .iaload) (len := 1) (ax := []) (by decide +kernel))
theorem e197_37 : mr197 S P 37 L st sh M c s = (q_isI (q_gv L 2) ∧ mr197 S P 38 L (q_gv L 2 :: st) sh M c s) := (propext (mv_R_iff (i := .iload_n 2) (len := 1) (ax := []) (by decide +kernel))).trans (q_ldI_eq (K := fun st => mr197 S P 38 L st sh M c s))
theorem e197_38 {y : Int32} {x : Int32} : mr197 S P 38 L (.int y :: .int x :: st) sh M c s = (if x = y then mr197 S P 41 L st sh M c s else mr197 S P 51 L st sh M c s) := (propext (mv_R_iff (i := .if_icmp .ne 13) (len := 3) (ax := [51]) (by decide +kernel))).trans (q_br')
theorem e197_41 : mr197 S P 41 L st sh M c s = (q_isA (q_gv L 0) ∧ mr197 S P 42 L (q_gv L 0 :: st) sh M c s) := (propext (mv_R_iff (i := .aload_n 0) (len := 1) (ax := []) (by decide +kernel))).trans (q_ldA_eq (K := fun st => mr197 S P 42 L st sh M c s))
theorem e197_42 {a : Nat} : mr197 S P 42 L (.ref a :: st) sh M c s = (mv_kgf sh M a 5 37 (mr197 S P) 45 L st c s) := propext (mv_R_iff (i := .getfield 74) (len := 3) (ax := [1062, 0, 5, 37]) (by decide +kernel))
theorem e197_45 : mr197 S P 45 L st sh M c s = (q_isI (q_gv L 5) ∧ mr197 S P 47 L (q_gv L 5 :: st) sh M c s) := (propext (mv_R_iff (i := .iload 5) (len := 2) (ax := []) (by decide +kernel))).trans (q_ldI_eq (K := fun st => mr197 S P 47 L st sh M c s))
theorem e197_47 {i : Int32} {a : Nat} : mr197 S P 47 L (.int i :: .ref a :: st) sh M c s = (mv_kld sh M a i (mr197 S P) 48 L st c s) := propext (mv_R_iff (i := .iaload) (len := 1) (ax := []) (by decide +kernel))
theorem e197_48 : mr197 S P 48 L st sh M c s = (mr197 S P 52 L st sh M c s) := propext (mv_R_iff (i := .goto 4) (len := 3) (ax := [52]) (by decide +kernel))
theorem e197_51 : mr197 S P 51 L st sh M c s = (mr197 S P 52 L (.int (nI 0) :: st) sh M c s) := propext (mv_R_iff (i := .iconst 0) (len := 1) (ax := []) (by decide +kernel))
theorem e197_52 {y : Int32} {x : Int32} : mr197 S P 52 L (.int y :: .int x :: st) sh M c s = (mr197 S P 53 L (.int (x + y) :: st) sh M c s) := propext (mv_R_iff (i := .iadd) (len := 1) (ax := []) (by decide +kernel))
theorem e197_53 {x : Int32} : mr197 S P 53 L (.int x :: st) sh M c s = (q_hs L 3 ∧ mr197 S P 54 (L.set 3 (some (.int x))) st sh M c s) := (propext (mv_R_iff (i := .istore_n 3) (len := 1) (ax := []) (by decide +kernel))).trans (q_st_eq (K := fun L => mr197 S P 54 L st sh M c s))
theorem e197_54 : mr197 S P 54 L st sh M c s = ((q_isI (q_gv L 4) ∧ q_hs L 4) ∧ mr197 S P 57 (L.set 4 (some (q_inc (q_gv L 4) (nI 1)))) st sh M c s) := (propext (mv_R_iff (i := .iinc 4 1) (len := 3) (ax := []) (by decide +kernel))).trans (q_inc_eq (K := fun L => mr197 S P 57 L st sh M c s))
theorem e197_57 : mr197 S P 57 L st sh M c s = (mr197 S P 5 L st sh M c s) := propext (mv_R_iff (i := .goto (-52)) (len := 3) (ax := [5]) (by decide +kernel))
theorem e197_60 : mr197 S P 60 L st sh M c s = (q_isI (q_gv L 3) ∧ mr197 S P 61 L (q_gv L 3 :: st) sh M c s) := (propext (mv_R_iff (i := .iload_n 3) (len := 1) (ax := []) (by decide +kernel))).trans (q_ldI_eq (K := fun st => mr197 S P 61 L st sh M c s))
theorem e197_61 {x : Int32} : mr197 S P 61 L [.int x] sh M c s = (mv_nr 0 x ∧ P (some (.int x)) sh M) := propext (mv_R_iff (i := .ireturn) (len := 1) (ax := [0]) (by decide +kernel))
-- 198: TurnedTabletsModel.layWays()V
def mk198 : mv_Cd := [
  (0, .aload_n 0, 1, []),
  (1, .invokevirtual 246, 3, [0, 169, 1, 5, 0, 0, 0, 1291, 1293, 93, 119, 1294]),
  (4, .iconst 0, 1, []),
  (5, .istore_n 1, 1, []),
  (6, .iload_n 1, 1, []),
  (7, .aload_n 0, 1, []),
  (8, .getfield 221, 3, [1057, 0, 5, 32]),
  (11, .if_icmp .ge 16, 3, [27]),
  (14, .aload_n 0, 1, []),
  (15, .getfield 74, 3, [1062, 0, 5, 37]),
  (18, .iload_n 1, 1, []),
  (19, .iconst 1, 1, []),
  (20, .iastore, 1, []),
  (21, .iinc 1 1, 3, []),
  (24, .goto (-18), 3, [6]),
  (27, .aload_n 0, 1, []),
  (28, .getfield 169, 3, [1039, 0, 5, 14]),
  (31, .iconst 1, 1, []),
  (32, .isub, 1, []),
  (33, .istore_n 1, 1, []),
  (34, .iload_n 1, 1, []),
  (35, .ifCond .lt 70, 3, [105]),
  (38, .iconst 0, 1, []),
  (39, .istore_n 2, 1, []),
  (40, .iload_n 2, 1, []),
  (41, .aload_n 0, 1, []),
  (42, .getfield 221, 3, [1057, 0, 5, 32]),
  (45, .if_icmp .ge 26, 3, [71]),
  (48, .aload_n 0, 1, []),
  (49, .getfield 77, 3, [1063, 0, 5, 38]),
  (52, .iload_n 2, 1, []),
  (53, .aload_n 0, 1, []),
  (54, .iload_n 2, 1, []),
  (55, .aload_n 0, 1, []),
  (56, .getfield 31, 3, [1040, 0, 5, 15]),
  (59, .iload_n 1, 1, []),
  (60, .iaload, 1, []),
  (61, .invokevirtual 258, 3, [0, 197, 3, 5, 0, 0, 0, 1349, 1351, 101, 119, 1352]),
  (64, .iastore, 1, []),
  (65, .iinc 2 1, 3, []),
  (68, .goto (-28), 3, [40]),
  (71, .iconst 0, 1, []),
  (72, .istore_n 2, 1, []),
  (73, .iload_n 2, 1, []),
  (74, .aload_n 0, 1, []),
  (75, .getfield 221, 3, [1057, 0, 5, 32]),
  (78, .if_icmp .ge 21, 3, [99]),
  (81, .aload_n 0, 1, []),
  (82, .getfield 74, 3, [1062, 0, 5, 37]),
  (85, .iload_n 2, 1, []),
  (86, .aload_n 0, 1, []),
  (87, .getfield 77, 3, [1063, 0, 5, 38]),
  (90, .iload_n 2, 1, []),
  (91, .iaload, 1, []),
  (92, .iastore, 1, []),
  (93, .iinc 2 1, 3, []),
  (96, .goto (-23), 3, [73]),
  (99, .iinc 1 (-1), 3, []),
  (102, .goto (-68), 3, [34]),
  (105, .return_, 1, [])]
def mr198 (S : Nat → mv_Sp) (P : mv_Post) : mv_Kt := mv_R mv_DF mk198 S (0, 0) P
theorem e198_0 : mr198 S P 0 L st sh M c s = (q_isA (q_gv L 0) ∧ mr198 S P 1 L (q_gv L 0 :: st) sh M c s) := (propext (mv_R_iff (i := .aload_n 0) (len := 1) (ax := []) (by decide +kernel))).trans (q_ldA_eq (K := fun st => mr198 S P 1 L st sh M c s))
theorem e198_1 {v1 : Value} : mr198 S P 1 L (v1 :: st) sh M c s = (mv_ss st ≤ 8 ∧ c ≤ 0 ∧ s ≤ 0 ∧ mv_isO sh (some v1) 5 ∧ mv_kal S 169 [v1] sh M (mr198 S P) 4 L st c s) := (propext (mv_R_iff (i := .invokevirtual 246) (len := 3) (ax := [0, 169, 1, 5, 0, 0, 0, 1291, 1293, 93, 119, 1294]) (by decide +kernel))).trans (q_call0)
theorem e198_4 : mr198 S P 4 L st sh M c s = (mr198 S P 5 L (.int (nI 0) :: st) sh M c s) := propext (mv_R_iff (i := .iconst 0) (len := 1) (ax := []) (by decide +kernel))
theorem e198_5 {x : Int32} : mr198 S P 5 L (.int x :: st) sh M c s = (q_hs L 1 ∧ mr198 S P 6 (L.set 1 (some (.int x))) st sh M c s) := (propext (mv_R_iff (i := .istore_n 1) (len := 1) (ax := []) (by decide +kernel))).trans (q_st_eq (K := fun L => mr198 S P 6 L st sh M c s))
theorem e198_6 : mr198 S P 6 L st sh M c s = (q_isI (q_gv L 1) ∧ mr198 S P 7 L (q_gv L 1 :: st) sh M c s) := (propext (mv_R_iff (i := .iload_n 1) (len := 1) (ax := []) (by decide +kernel))).trans (q_ldI_eq (K := fun st => mr198 S P 7 L st sh M c s))
theorem e198_7 : mr198 S P 7 L st sh M c s = (q_isA (q_gv L 0) ∧ mr198 S P 8 L (q_gv L 0 :: st) sh M c s) := (propext (mv_R_iff (i := .aload_n 0) (len := 1) (ax := []) (by decide +kernel))).trans (q_ldA_eq (K := fun st => mr198 S P 8 L st sh M c s))
theorem e198_8 {a : Nat} : mr198 S P 8 L (.ref a :: st) sh M c s = (mv_kgf sh M a 5 32 (mr198 S P) 11 L st c s) := propext (mv_R_iff (i := .getfield 221) (len := 3) (ax := [1057, 0, 5, 32]) (by decide +kernel))
theorem e198_11 {y : Int32} {x : Int32} : mr198 S P 11 L (.int y :: .int x :: st) sh M c s = (if y ≤ x then mr198 S P 27 L st sh M c s else mr198 S P 14 L st sh M c s) := (propext (mv_R_iff (i := .if_icmp .ge 16) (len := 3) (ax := [27]) (by decide +kernel))).trans (q_br)
theorem e198_14 : mr198 S P 14 L st sh M c s = (q_isA (q_gv L 0) ∧ mr198 S P 15 L (q_gv L 0 :: st) sh M c s) := (propext (mv_R_iff (i := .aload_n 0) (len := 1) (ax := []) (by decide +kernel))).trans (q_ldA_eq (K := fun st => mr198 S P 15 L st sh M c s))
theorem e198_15 {a : Nat} : mr198 S P 15 L (.ref a :: st) sh M c s = (mv_kgf sh M a 5 37 (mr198 S P) 18 L st c s) := propext (mv_R_iff (i := .getfield 74) (len := 3) (ax := [1062, 0, 5, 37]) (by decide +kernel))
theorem e198_18 : mr198 S P 18 L st sh M c s = (q_isI (q_gv L 1) ∧ mr198 S P 19 L (q_gv L 1 :: st) sh M c s) := (propext (mv_R_iff (i := .iload_n 1) (len := 1) (ax := []) (by decide +kernel))).trans (q_ldI_eq (K := fun st => mr198 S P 19 L st sh M c s))
theorem e198_19 : mr198 S P 19 L st sh M c s = (mr198 S P 20 L (.int (nI 1) :: st) sh M c s) := propext (mv_R_iff (i := .iconst 1) (len := 1) (ax := []) (by decide +kernel))
theorem e198_20 {x : Int32} {i : Int32} {a : Nat} : mr198 S P 20 L (.int x :: .int i :: .ref a :: st) sh M c s = (mv_kst sh M a i x (mr198 S P) 21 L st c s) := propext (mv_R_iff (i := .iastore) (len := 1) (ax := []) (by decide +kernel))
theorem e198_21 : mr198 S P 21 L st sh M c s = ((q_isI (q_gv L 1) ∧ q_hs L 1) ∧ mr198 S P 24 (L.set 1 (some (q_inc (q_gv L 1) (nI 1)))) st sh M c s) := (propext (mv_R_iff (i := .iinc 1 1) (len := 3) (ax := []) (by decide +kernel))).trans (q_inc_eq (K := fun L => mr198 S P 24 L st sh M c s))
theorem e198_24 : mr198 S P 24 L st sh M c s = (mr198 S P 6 L st sh M c s) := propext (mv_R_iff (i := .goto (-18)) (len := 3) (ax := [6]) (by decide +kernel))
theorem e198_27 : mr198 S P 27 L st sh M c s = (q_isA (q_gv L 0) ∧ mr198 S P 28 L (q_gv L 0 :: st) sh M c s) := (propext (mv_R_iff (i := .aload_n 0) (len := 1) (ax := []) (by decide +kernel))).trans (q_ldA_eq (K := fun st => mr198 S P 28 L st sh M c s))
theorem e198_28 {a : Nat} : mr198 S P 28 L (.ref a :: st) sh M c s = (mv_kgf sh M a 5 14 (mr198 S P) 31 L st c s) := propext (mv_R_iff (i := .getfield 169) (len := 3) (ax := [1039, 0, 5, 14]) (by decide +kernel))
theorem e198_31 : mr198 S P 31 L st sh M c s = (mr198 S P 32 L (.int (nI 1) :: st) sh M c s) := propext (mv_R_iff (i := .iconst 1) (len := 1) (ax := []) (by decide +kernel))
theorem e198_32 {y : Int32} {x : Int32} : mr198 S P 32 L (.int y :: .int x :: st) sh M c s = (mr198 S P 33 L (.int (x - y) :: st) sh M c s) := propext (mv_R_iff (i := .isub) (len := 1) (ax := []) (by decide +kernel))
theorem e198_33 {x : Int32} : mr198 S P 33 L (.int x :: st) sh M c s = (q_hs L 1 ∧ mr198 S P 34 (L.set 1 (some (.int x))) st sh M c s) := (propext (mv_R_iff (i := .istore_n 1) (len := 1) (ax := []) (by decide +kernel))).trans (q_st_eq (K := fun L => mr198 S P 34 L st sh M c s))
theorem e198_34 : mr198 S P 34 L st sh M c s = (q_isI (q_gv L 1) ∧ mr198 S P 35 L (q_gv L 1 :: st) sh M c s) := (propext (mv_R_iff (i := .iload_n 1) (len := 1) (ax := []) (by decide +kernel))).trans (q_ldI_eq (K := fun st => mr198 S P 35 L st sh M c s))
theorem e198_35 {x : Int32} : mr198 S P 35 L (.int x :: st) sh M c s = (if x < nI 0 then mr198 S P 105 L st sh M c s else mr198 S P 38 L st sh M c s) := (propext (mv_R_iff (i := .ifCond .lt 70) (len := 3) (ax := [105]) (by decide +kernel))).trans (q_br)
theorem e198_38 : mr198 S P 38 L st sh M c s = (mr198 S P 39 L (.int (nI 0) :: st) sh M c s) := propext (mv_R_iff (i := .iconst 0) (len := 1) (ax := []) (by decide +kernel))
theorem e198_39 {x : Int32} : mr198 S P 39 L (.int x :: st) sh M c s = (q_hs L 2 ∧ mr198 S P 40 (L.set 2 (some (.int x))) st sh M c s) := (propext (mv_R_iff (i := .istore_n 2) (len := 1) (ax := []) (by decide +kernel))).trans (q_st_eq (K := fun L => mr198 S P 40 L st sh M c s))
theorem e198_40 : mr198 S P 40 L st sh M c s = (q_isI (q_gv L 2) ∧ mr198 S P 41 L (q_gv L 2 :: st) sh M c s) := (propext (mv_R_iff (i := .iload_n 2) (len := 1) (ax := []) (by decide +kernel))).trans (q_ldI_eq (K := fun st => mr198 S P 41 L st sh M c s))
theorem e198_41 : mr198 S P 41 L st sh M c s = (q_isA (q_gv L 0) ∧ mr198 S P 42 L (q_gv L 0 :: st) sh M c s) := (propext (mv_R_iff (i := .aload_n 0) (len := 1) (ax := []) (by decide +kernel))).trans (q_ldA_eq (K := fun st => mr198 S P 42 L st sh M c s))
theorem e198_42 {a : Nat} : mr198 S P 42 L (.ref a :: st) sh M c s = (mv_kgf sh M a 5 32 (mr198 S P) 45 L st c s) := propext (mv_R_iff (i := .getfield 221) (len := 3) (ax := [1057, 0, 5, 32]) (by decide +kernel))
theorem e198_45 {y : Int32} {x : Int32} : mr198 S P 45 L (.int y :: .int x :: st) sh M c s = (if y ≤ x then mr198 S P 71 L st sh M c s else mr198 S P 48 L st sh M c s) := (propext (mv_R_iff (i := .if_icmp .ge 26) (len := 3) (ax := [71]) (by decide +kernel))).trans (q_br)
theorem e198_48 : mr198 S P 48 L st sh M c s = (q_isA (q_gv L 0) ∧ mr198 S P 49 L (q_gv L 0 :: st) sh M c s) := (propext (mv_R_iff (i := .aload_n 0) (len := 1) (ax := []) (by decide +kernel))).trans (q_ldA_eq (K := fun st => mr198 S P 49 L st sh M c s))
theorem e198_49 {a : Nat} : mr198 S P 49 L (.ref a :: st) sh M c s = (mv_kgf sh M a 5 38 (mr198 S P) 52 L st c s) := propext (mv_R_iff (i := .getfield 77) (len := 3) (ax := [1063, 0, 5, 38]) (by decide +kernel))
theorem e198_52 : mr198 S P 52 L st sh M c s = (q_isI (q_gv L 2) ∧ mr198 S P 53 L (q_gv L 2 :: st) sh M c s) := (propext (mv_R_iff (i := .iload_n 2) (len := 1) (ax := []) (by decide +kernel))).trans (q_ldI_eq (K := fun st => mr198 S P 53 L st sh M c s))
theorem e198_53 : mr198 S P 53 L st sh M c s = (q_isA (q_gv L 0) ∧ mr198 S P 54 L (q_gv L 0 :: st) sh M c s) := (propext (mv_R_iff (i := .aload_n 0) (len := 1) (ax := []) (by decide +kernel))).trans (q_ldA_eq (K := fun st => mr198 S P 54 L st sh M c s))
theorem e198_54 : mr198 S P 54 L st sh M c s = (q_isI (q_gv L 2) ∧ mr198 S P 55 L (q_gv L 2 :: st) sh M c s) := (propext (mv_R_iff (i := .iload_n 2) (len := 1) (ax := []) (by decide +kernel))).trans (q_ldI_eq (K := fun st => mr198 S P 55 L st sh M c s))
theorem e198_55 : mr198 S P 55 L st sh M c s = (q_isA (q_gv L 0) ∧ mr198 S P 56 L (q_gv L 0 :: st) sh M c s) := (propext (mv_R_iff (i := .aload_n 0) (len := 1) (ax := []) (by decide +kernel))).trans (q_ldA_eq (K := fun st => mr198 S P 56 L st sh M c s))
theorem e198_56 {a : Nat} : mr198 S P 56 L (.ref a :: st) sh M c s = (mv_kgf sh M a 5 15 (mr198 S P) 59 L st c s) := propext (mv_R_iff (i := .getfield 31) (len := 3) (ax := [1040, 0, 5, 15]) (by decide +kernel))
theorem e198_59 : mr198 S P 59 L st sh M c s = (q_isI (q_gv L 1) ∧ mr198 S P 60 L (q_gv L 1 :: st) sh M c s) := (propext (mv_R_iff (i := .iload_n 1) (len := 1) (ax := []) (by decide +kernel))).trans (q_ldI_eq (K := fun st => mr198 S P 60 L st sh M c s))
theorem e198_60 {i : Int32} {a : Nat} : mr198 S P 60 L (.int i :: .ref a :: st) sh M c s = (mv_kld sh M a i (mr198 S P) 61 L st c s) := propext (mv_R_iff (i := .iaload) (len := 1) (ax := []) (by decide +kernel))
theorem e198_61 {v3 : Value} {v2 : Value} {v1 : Value} : mr198 S P 61 L (v3 :: v2 :: v1 :: st) sh M c s = (mv_ss st ≤ 8 ∧ c ≤ 0 ∧ s ≤ 0 ∧ mv_isO sh (some v1) 5 ∧ mv_kal S 197 [v1, v2, v3] sh M (mr198 S P) 64 L st c s) := (propext (mv_R_iff (i := .invokevirtual 258) (len := 3) (ax := [0, 197, 3, 5, 0, 0, 0, 1349, 1351, 101, 119, 1352]) (by decide +kernel))).trans (q_call0)
theorem e198_64 {x : Int32} {i : Int32} {a : Nat} : mr198 S P 64 L (.int x :: .int i :: .ref a :: st) sh M c s = (mv_kst sh M a i x (mr198 S P) 65 L st c s) := propext (mv_R_iff (i := .iastore) (len := 1) (ax := []) (by decide +kernel))
theorem e198_65 : mr198 S P 65 L st sh M c s = ((q_isI (q_gv L 2) ∧ q_hs L 2) ∧ mr198 S P 68 (L.set 2 (some (q_inc (q_gv L 2) (nI 1)))) st sh M c s) := (propext (mv_R_iff (i := .iinc 2 1) (len := 3) (ax := []) (by decide +kernel))).trans (q_inc_eq (K := fun L => mr198 S P 68 L st sh M c s))
theorem e198_68 : mr198 S P 68 L st sh M c s = (mr198 S P 40 L st sh M c s) := propext (mv_R_iff (i := .goto (-28)) (len := 3) (ax := [40]) (by decide +kernel))
theorem e198_71 : mr198 S P 71 L st sh M c s = (mr198 S P 72 L (.int (nI 0) :: st) sh M c s) := propext (mv_R_iff (i := .iconst 0) (len := 1) (ax := []) (by decide +kernel))
theorem e198_72 {x : Int32} : mr198 S P 72 L (.int x :: st) sh M c s = (q_hs L 2 ∧ mr198 S P 73 (L.set 2 (some (.int x))) st sh M c s) := (propext (mv_R_iff (i := .istore_n 2) (len := 1) (ax := []) (by decide +kernel))).trans (q_st_eq (K := fun L => mr198 S P 73 L st sh M c s))
theorem e198_73 : mr198 S P 73 L st sh M c s = (q_isI (q_gv L 2) ∧ mr198 S P 74 L (q_gv L 2 :: st) sh M c s) := (propext (mv_R_iff (i := .iload_n 2) (len := 1) (ax := []) (by decide +kernel))).trans (q_ldI_eq (K := fun st => mr198 S P 74 L st sh M c s))
theorem e198_74 : mr198 S P 74 L st sh M c s = (q_isA (q_gv L 0) ∧ mr198 S P 75 L (q_gv L 0 :: st) sh M c s) := (propext (mv_R_iff (i := .aload_n 0) (len := 1) (ax := []) (by decide +kernel))).trans (q_ldA_eq (K := fun st => mr198 S P 75 L st sh M c s))
theorem e198_75 {a : Nat} : mr198 S P 75 L (.ref a :: st) sh M c s = (mv_kgf sh M a 5 32 (mr198 S P) 78 L st c s) := propext (mv_R_iff (i := .getfield 221) (len := 3) (ax := [1057, 0, 5, 32]) (by decide +kernel))
theorem e198_78 {y : Int32} {x : Int32} : mr198 S P 78 L (.int y :: .int x :: st) sh M c s = (if y ≤ x then mr198 S P 99 L st sh M c s else mr198 S P 81 L st sh M c s) := (propext (mv_R_iff (i := .if_icmp .ge 21) (len := 3) (ax := [99]) (by decide +kernel))).trans (q_br)
theorem e198_81 : mr198 S P 81 L st sh M c s = (q_isA (q_gv L 0) ∧ mr198 S P 82 L (q_gv L 0 :: st) sh M c s) := (propext (mv_R_iff (i := .aload_n 0) (len := 1) (ax := []) (by decide +kernel))).trans (q_ldA_eq (K := fun st => mr198 S P 82 L st sh M c s))
theorem e198_82 {a : Nat} : mr198 S P 82 L (.ref a :: st) sh M c s = (mv_kgf sh M a 5 37 (mr198 S P) 85 L st c s) := propext (mv_R_iff (i := .getfield 74) (len := 3) (ax := [1062, 0, 5, 37]) (by decide +kernel))
theorem e198_85 : mr198 S P 85 L st sh M c s = (q_isI (q_gv L 2) ∧ mr198 S P 86 L (q_gv L 2 :: st) sh M c s) := (propext (mv_R_iff (i := .iload_n 2) (len := 1) (ax := []) (by decide +kernel))).trans (q_ldI_eq (K := fun st => mr198 S P 86 L st sh M c s))
theorem e198_86 : mr198 S P 86 L st sh M c s = (q_isA (q_gv L 0) ∧ mr198 S P 87 L (q_gv L 0 :: st) sh M c s) := (propext (mv_R_iff (i := .aload_n 0) (len := 1) (ax := []) (by decide +kernel))).trans (q_ldA_eq (K := fun st => mr198 S P 87 L st sh M c s))
theorem e198_87 {a : Nat} : mr198 S P 87 L (.ref a :: st) sh M c s = (mv_kgf sh M a 5 38 (mr198 S P) 90 L st c s) := propext (mv_R_iff (i := .getfield 77) (len := 3) (ax := [1063, 0, 5, 38]) (by decide +kernel))
theorem e198_90 : mr198 S P 90 L st sh M c s = (q_isI (q_gv L 2) ∧ mr198 S P 91 L (q_gv L 2 :: st) sh M c s) := (propext (mv_R_iff (i := .iload_n 2) (len := 1) (ax := []) (by decide +kernel))).trans (q_ldI_eq (K := fun st => mr198 S P 91 L st sh M c s))
theorem e198_91 {i : Int32} {a : Nat} : mr198 S P 91 L (.int i :: .ref a :: st) sh M c s = (mv_kld sh M a i (mr198 S P) 92 L st c s) := propext (mv_R_iff (i := .iaload) (len := 1) (ax := []) (by decide +kernel))
theorem e198_92 {x : Int32} {i : Int32} {a : Nat} : mr198 S P 92 L (.int x :: .int i :: .ref a :: st) sh M c s = (mv_kst sh M a i x (mr198 S P) 93 L st c s) := propext (mv_R_iff (i := .iastore) (len := 1) (ax := []) (by decide +kernel))
theorem e198_93 : mr198 S P 93 L st sh M c s = ((q_isI (q_gv L 2) ∧ q_hs L 2) ∧ mr198 S P 96 (L.set 2 (some (q_inc (q_gv L 2) (nI 1)))) st sh M c s) := (propext (mv_R_iff (i := .iinc 2 1) (len := 3) (ax := []) (by decide +kernel))).trans (q_inc_eq (K := fun L => mr198 S P 96 L st sh M c s))
theorem e198_96 : mr198 S P 96 L st sh M c s = (mr198 S P 73 L st sh M c s) := propext (mv_R_iff (i := .goto (-23)) (len := 3) (ax := [73]) (by decide +kernel))
theorem e198_99 : mr198 S P 99 L st sh M c s = ((q_isI (q_gv L 1) ∧ q_hs L 1) ∧ mr198 S P 102 (L.set 1 (some (q_inc (q_gv L 1) (Int32.ofInt (-1))))) st sh M c s) := (propext (mv_R_iff (i := .iinc 1 (-1)) (len := 3) (ax := []) (by decide +kernel))).trans (q_inc_eq (K := fun L => mr198 S P 102 L st sh M c s))
theorem e198_102 : mr198 S P 102 L st sh M c s = (mr198 S P 34 L st sh M c s) := propext (mv_R_iff (i := .goto (-68)) (len := 3) (ax := [34]) (by decide +kernel))
theorem e198_105 : mr198 S P 105 L [] sh M c s = (P none sh M) := propext (mv_R_iff (i := .return_) (len := 1) (ax := []) (by decide +kernel))
-- 199: TurnedTabletsModel.lies()I
def mk199 : mv_Cd := [
  (0, .aload_n 0, 1, []),
  (1, .invokevirtual 261, 3, [0, 198, 1, 5, 0, 0, 0, 1345, 1347, 100, 119, 1348]),
  (4, .iconst 0, 1, []),
  (5, .istore_n 1, 1, []),
  (6, .iconst 0, 1, []),
  (7, .istore_n 2, 1, []),
  (8, .iload_n 2, 1, []),
  (9, .aload_n 0, 1, []),
  (10, .getfield 221, 3, [1057, 0, 5, 32]),
  (13, .if_icmp .ge 26, 3, [39]),
  (16, .iload_n 1, 1, []),
  (17, .aload_n 0, 1, []),
  (18, .getfield 74, 3, [1062, 0, 5, 37]),
  (21, .iload_n 2, 1, []),
  (22, .iaload, 1, []),
  (23, .ifCond .le 7, 3, [30]),
  (26, .iconst 1, 1, []),
  (27, .goto 4, 3, [31]),
  (30, .iconst 0, 1, []),
  (31, .iadd, 1, []),
  (32, .istore_n 1, 1, []),
  (33, .iinc 2 1, 3, []),
  (36, .goto (-28), 3, [8]),
  (39, .iload_n 1, 1, []),
  (40, .ireturn, 1, [0])]
def mr199 (S : Nat → mv_Sp) (P : mv_Post) : mv_Kt := mv_R mv_DF mk199 S (0, 0) P
theorem e199_0 : mr199 S P 0 L st sh M c s = (q_isA (q_gv L 0) ∧ mr199 S P 1 L (q_gv L 0 :: st) sh M c s) := (propext (mv_R_iff (i := .aload_n 0) (len := 1) (ax := []) (by decide +kernel))).trans (q_ldA_eq (K := fun st => mr199 S P 1 L st sh M c s))
theorem e199_1 {v1 : Value} : mr199 S P 1 L (v1 :: st) sh M c s = (mv_ss st ≤ 8 ∧ c ≤ 0 ∧ s ≤ 0 ∧ mv_isO sh (some v1) 5 ∧ mv_kal S 198 [v1] sh M (mr199 S P) 4 L st c s) := (propext (mv_R_iff (i := .invokevirtual 261) (len := 3) (ax := [0, 198, 1, 5, 0, 0, 0, 1345, 1347, 100, 119, 1348]) (by decide +kernel))).trans (q_call0)
theorem e199_4 : mr199 S P 4 L st sh M c s = (mr199 S P 5 L (.int (nI 0) :: st) sh M c s) := propext (mv_R_iff (i := .iconst 0) (len := 1) (ax := []) (by decide +kernel))
theorem e199_5 {x : Int32} : mr199 S P 5 L (.int x :: st) sh M c s = (q_hs L 1 ∧ mr199 S P 6 (L.set 1 (some (.int x))) st sh M c s) := (propext (mv_R_iff (i := .istore_n 1) (len := 1) (ax := []) (by decide +kernel))).trans (q_st_eq (K := fun L => mr199 S P 6 L st sh M c s))
theorem e199_6 : mr199 S P 6 L st sh M c s = (mr199 S P 7 L (.int (nI 0) :: st) sh M c s) := propext (mv_R_iff (i := .iconst 0) (len := 1) (ax := []) (by decide +kernel))
theorem e199_7 {x : Int32} : mr199 S P 7 L (.int x :: st) sh M c s = (q_hs L 2 ∧ mr199 S P 8 (L.set 2 (some (.int x))) st sh M c s) := (propext (mv_R_iff (i := .istore_n 2) (len := 1) (ax := []) (by decide +kernel))).trans (q_st_eq (K := fun L => mr199 S P 8 L st sh M c s))
theorem e199_8 : mr199 S P 8 L st sh M c s = (q_isI (q_gv L 2) ∧ mr199 S P 9 L (q_gv L 2 :: st) sh M c s) := (propext (mv_R_iff (i := .iload_n 2) (len := 1) (ax := []) (by decide +kernel))).trans (q_ldI_eq (K := fun st => mr199 S P 9 L st sh M c s))
theorem e199_9 : mr199 S P 9 L st sh M c s = (q_isA (q_gv L 0) ∧ mr199 S P 10 L (q_gv L 0 :: st) sh M c s) := (propext (mv_R_iff (i := .aload_n 0) (len := 1) (ax := []) (by decide +kernel))).trans (q_ldA_eq (K := fun st => mr199 S P 10 L st sh M c s))
theorem e199_10 {a : Nat} : mr199 S P 10 L (.ref a :: st) sh M c s = (mv_kgf sh M a 5 32 (mr199 S P) 13 L st c s) := propext (mv_R_iff (i := .getfield 221) (len := 3) (ax := [1057, 0, 5, 32]) (by decide +kernel))
theorem e199_13 {y : Int32} {x : Int32} : mr199 S P 13 L (.int y :: .int x :: st) sh M c s = (if y ≤ x then mr199 S P 39 L st sh M c s else mr199 S P 16 L st sh M c s) := (propext (mv_R_iff (i := .if_icmp .ge 26) (len := 3) (ax := [39]) (by decide +kernel))).trans (q_br)
theorem e199_16 : mr199 S P 16 L st sh M c s = (q_isI (q_gv L 1) ∧ mr199 S P 17 L (q_gv L 1 :: st) sh M c s) := (propext (mv_R_iff (i := .iload_n 1) (len := 1) (ax := []) (by decide +kernel))).trans (q_ldI_eq (K := fun st => mr199 S P 17 L st sh M c s))
theorem e199_17 : mr199 S P 17 L st sh M c s = (q_isA (q_gv L 0) ∧ mr199 S P 18 L (q_gv L 0 :: st) sh M c s) := (propext (mv_R_iff (i := .aload_n 0) (len := 1) (ax := []) (by decide +kernel))).trans (q_ldA_eq (K := fun st => mr199 S P 18 L st sh M c s))
theorem e199_18 {a : Nat} : mr199 S P 18 L (.ref a :: st) sh M c s = (mv_kgf sh M a 5 37 (mr199 S P) 21 L st c s) := propext (mv_R_iff (i := .getfield 74) (len := 3) (ax := [1062, 0, 5, 37]) (by decide +kernel))
theorem e199_21 : mr199 S P 21 L st sh M c s = (q_isI (q_gv L 2) ∧ mr199 S P 22 L (q_gv L 2 :: st) sh M c s) := (propext (mv_R_iff (i := .iload_n 2) (len := 1) (ax := []) (by decide +kernel))).trans (q_ldI_eq (K := fun st => mr199 S P 22 L st sh M c s))
theorem e199_22 {i : Int32} {a : Nat} : mr199 S P 22 L (.int i :: .ref a :: st) sh M c s = (mv_kld sh M a i (mr199 S P) 23 L st c s) := propext (mv_R_iff (i := .iaload) (len := 1) (ax := []) (by decide +kernel))
theorem e199_23 {x : Int32} : mr199 S P 23 L (.int x :: st) sh M c s = (if x ≤ nI 0 then mr199 S P 30 L st sh M c s else mr199 S P 26 L st sh M c s) := (propext (mv_R_iff (i := .ifCond .le 7) (len := 3) (ax := [30]) (by decide +kernel))).trans (q_br)
theorem e199_26 : mr199 S P 26 L st sh M c s = (mr199 S P 27 L (.int (nI 1) :: st) sh M c s) := propext (mv_R_iff (i := .iconst 1) (len := 1) (ax := []) (by decide +kernel))
theorem e199_27 : mr199 S P 27 L st sh M c s = (mr199 S P 31 L st sh M c s) := propext (mv_R_iff (i := .goto 4) (len := 3) (ax := [31]) (by decide +kernel))
theorem e199_30 : mr199 S P 30 L st sh M c s = (mr199 S P 31 L (.int (nI 0) :: st) sh M c s) := propext (mv_R_iff (i := .iconst 0) (len := 1) (ax := []) (by decide +kernel))
theorem e199_31 {y : Int32} {x : Int32} : mr199 S P 31 L (.int y :: .int x :: st) sh M c s = (mr199 S P 32 L (.int (x + y) :: st) sh M c s) := propext (mv_R_iff (i := .iadd) (len := 1) (ax := []) (by decide +kernel))
theorem e199_32 {x : Int32} : mr199 S P 32 L (.int x :: st) sh M c s = (q_hs L 1 ∧ mr199 S P 33 (L.set 1 (some (.int x))) st sh M c s) := (propext (mv_R_iff (i := .istore_n 1) (len := 1) (ax := []) (by decide +kernel))).trans (q_st_eq (K := fun L => mr199 S P 33 L st sh M c s))
theorem e199_33 : mr199 S P 33 L st sh M c s = ((q_isI (q_gv L 2) ∧ q_hs L 2) ∧ mr199 S P 36 (L.set 2 (some (q_inc (q_gv L 2) (nI 1)))) st sh M c s) := (propext (mv_R_iff (i := .iinc 2 1) (len := 3) (ax := []) (by decide +kernel))).trans (q_inc_eq (K := fun L => mr199 S P 36 L st sh M c s))
theorem e199_36 : mr199 S P 36 L st sh M c s = (mr199 S P 8 L st sh M c s) := propext (mv_R_iff (i := .goto (-28)) (len := 3) (ax := [8]) (by decide +kernel))
theorem e199_39 : mr199 S P 39 L st sh M c s = (q_isI (q_gv L 1) ∧ mr199 S P 40 L (q_gv L 1 :: st) sh M c s) := (propext (mv_R_iff (i := .iload_n 1) (len := 1) (ax := []) (by decide +kernel))).trans (q_ldI_eq (K := fun st => mr199 S P 40 L st sh M c s))
theorem e199_40 {x : Int32} : mr199 S P 40 L [.int x] sh M c s = (mv_nr 0 x ∧ P (some (.int x)) sh M) := propext (mv_R_iff (i := .ireturn) (len := 1) (ax := [0]) (by decide +kernel))
-- 200: TurnedTabletsModel.needs(I)I
def mk200 : mv_Cd := [
  (0, .aload_n 0, 1, []),
  (1, .iload_n 1, 1, []),
  (2, .invokevirtual 243, 3, [0, 167, 2, 5, 0, 0, 0, 1287, 1289, 92, 119, 1290]),
  (5, .ifCond .ne 5, 3, [10]),
  (8, .iconst (-1), 1, []),
  (9, .ireturn, 1, [0]),
  (10, .bipush (-4), 2, []),
  (12, .istore_n 2, 1, []),
  (13, .aload_n 0, 1, []),
  (14, .invokevirtual 246, 3, [0, 169, 1, 5, 0, 0, 0, 1291, 1293, 93, 119, 1294]),
  (17, .iconst 0, 1, []),
  (18, .istore_n 3, 1, []),
  (19, .iload_n 3, 1, []),
  (20, .aload_n 0, 1, []),
  (21, .invokevirtual 249, 3, [0, 176, 1, 5, 0, 0, 0, 1299, 1301, 95, 119, 1302]),
  (24, .if_icmp .gt 55, 3, [79]),
  (27, .iload_n 2, 1, []),
  (28, .bipush (-4), 2, []),
  (30, .if_icmp .eq 14, 3, [44]),
  (33, .iload_n 3, 1, []),
  (34, .invokestatic 255, 3, [3, 175, 1, 0, 0, 0, 0, 1330, 1331, 119, 1332]),
  (37, .iload_n 2, 1, []),
  (38, .invokestatic 255, 3, [3, 175, 1, 0, 0, 0, 0, 1330, 1331, 119, 1332]),
  (41, .if_icmp .ge 7, 3, [48]),
  (44, .iconst 1, 1, []),
  (45, .goto 4, 3, [49]),
  (48, .iconst 0, 1, []),
  (49, .istore 4, 2, []),
  (51, .iload 4, 2, []),
  (53, .ifCond .eq 18, 3, [71]),
  (56, .aload_n 0, 1, []),
  (57, .iload_n 1, 1, []),
  (58, .iload_n 3, 1, []),
  (59, .invokevirtual 252, 3, [0, 179, 3, 5, 0, 0, 0, 1303, 1305, 96, 119, 1306]),
  (62, .bipush (-4), 2, []),
  (64, .if_icmp .eq 7, 3, [71]),
  (67, .iload_n 3, 1, []),
  (68, .goto 4, 3, [72]),
  (71, .iload_n 2, 1, []),
  (72, .istore_n 2, 1, []),
  (73, .iinc 3 1, 3, []),
  (76, .goto (-57), 3, [19]),
  (79, .iload_n 2, 1, []),
  (80, .ireturn, 1, [0])]
def mr200 (S : Nat → mv_Sp) (P : mv_Post) : mv_Kt := mv_R mv_DF mk200 S (0, 0) P
theorem e200_0 : mr200 S P 0 L st sh M c s = (q_isA (q_gv L 0) ∧ mr200 S P 1 L (q_gv L 0 :: st) sh M c s) := (propext (mv_R_iff (i := .aload_n 0) (len := 1) (ax := []) (by decide +kernel))).trans (q_ldA_eq (K := fun st => mr200 S P 1 L st sh M c s))
theorem e200_1 : mr200 S P 1 L st sh M c s = (q_isI (q_gv L 1) ∧ mr200 S P 2 L (q_gv L 1 :: st) sh M c s) := (propext (mv_R_iff (i := .iload_n 1) (len := 1) (ax := []) (by decide +kernel))).trans (q_ldI_eq (K := fun st => mr200 S P 2 L st sh M c s))
theorem e200_2 {v2 : Value} {v1 : Value} : mr200 S P 2 L (v2 :: v1 :: st) sh M c s = (mv_ss st ≤ 8 ∧ c ≤ 0 ∧ s ≤ 0 ∧ mv_isO sh (some v1) 5 ∧ mv_kal S 167 [v1, v2] sh M (mr200 S P) 5 L st c s) := (propext (mv_R_iff (i := .invokevirtual 243) (len := 3) (ax := [0, 167, 2, 5, 0, 0, 0, 1287, 1289, 92, 119, 1290]) (by decide +kernel))).trans (q_call0)
theorem e200_5 {x : Int32} : mr200 S P 5 L (.int x :: st) sh M c s = (if x = nI 0 then mr200 S P 8 L st sh M c s else mr200 S P 10 L st sh M c s) := (propext (mv_R_iff (i := .ifCond .ne 5) (len := 3) (ax := [10]) (by decide +kernel))).trans (q_br')
theorem e200_8 : mr200 S P 8 L st sh M c s = (mr200 S P 9 L (.int (Int32.ofInt (-1)) :: st) sh M c s) := propext (mv_R_iff (i := .iconst (-1)) (len := 1) (ax := []) (by decide +kernel))
theorem e200_9 {x : Int32} : mr200 S P 9 L [.int x] sh M c s = (mv_nr 0 x ∧ P (some (.int x)) sh M) := propext (mv_R_iff (i := .ireturn) (len := 1) (ax := [0]) (by decide +kernel))
theorem e200_10 : mr200 S P 10 L st sh M c s = (mr200 S P 12 L (.int (Int32.ofInt (-4)) :: st) sh M c s) := (propext (mv_R_iff (i := .bipush (-4)) (len := 2) (ax := []) (by decide +kernel))).trans (congrArg (fun z => mr200 S P 12 L (.int z :: st) sh M c s) (by decide : (Int8.ofInt (-4)).toInt32 = Int32.ofInt (-4)))
theorem e200_12 {x : Int32} : mr200 S P 12 L (.int x :: st) sh M c s = (q_hs L 2 ∧ mr200 S P 13 (L.set 2 (some (.int x))) st sh M c s) := (propext (mv_R_iff (i := .istore_n 2) (len := 1) (ax := []) (by decide +kernel))).trans (q_st_eq (K := fun L => mr200 S P 13 L st sh M c s))
theorem e200_13 : mr200 S P 13 L st sh M c s = (q_isA (q_gv L 0) ∧ mr200 S P 14 L (q_gv L 0 :: st) sh M c s) := (propext (mv_R_iff (i := .aload_n 0) (len := 1) (ax := []) (by decide +kernel))).trans (q_ldA_eq (K := fun st => mr200 S P 14 L st sh M c s))
theorem e200_14 {v1 : Value} : mr200 S P 14 L (v1 :: st) sh M c s = (mv_ss st ≤ 8 ∧ c ≤ 0 ∧ s ≤ 0 ∧ mv_isO sh (some v1) 5 ∧ mv_kal S 169 [v1] sh M (mr200 S P) 17 L st c s) := (propext (mv_R_iff (i := .invokevirtual 246) (len := 3) (ax := [0, 169, 1, 5, 0, 0, 0, 1291, 1293, 93, 119, 1294]) (by decide +kernel))).trans (q_call0)
theorem e200_17 : mr200 S P 17 L st sh M c s = (mr200 S P 18 L (.int (nI 0) :: st) sh M c s) := propext (mv_R_iff (i := .iconst 0) (len := 1) (ax := []) (by decide +kernel))
theorem e200_18 {x : Int32} : mr200 S P 18 L (.int x :: st) sh M c s = (q_hs L 3 ∧ mr200 S P 19 (L.set 3 (some (.int x))) st sh M c s) := (propext (mv_R_iff (i := .istore_n 3) (len := 1) (ax := []) (by decide +kernel))).trans (q_st_eq (K := fun L => mr200 S P 19 L st sh M c s))
theorem e200_19 : mr200 S P 19 L st sh M c s = (q_isI (q_gv L 3) ∧ mr200 S P 20 L (q_gv L 3 :: st) sh M c s) := (propext (mv_R_iff (i := .iload_n 3) (len := 1) (ax := []) (by decide +kernel))).trans (q_ldI_eq (K := fun st => mr200 S P 20 L st sh M c s))
theorem e200_20 : mr200 S P 20 L st sh M c s = (q_isA (q_gv L 0) ∧ mr200 S P 21 L (q_gv L 0 :: st) sh M c s) := (propext (mv_R_iff (i := .aload_n 0) (len := 1) (ax := []) (by decide +kernel))).trans (q_ldA_eq (K := fun st => mr200 S P 21 L st sh M c s))
theorem e200_21 {v1 : Value} : mr200 S P 21 L (v1 :: st) sh M c s = (mv_ss st ≤ 8 ∧ c ≤ 0 ∧ s ≤ 0 ∧ mv_isO sh (some v1) 5 ∧ mv_kal S 176 [v1] sh M (mr200 S P) 24 L st c s) := (propext (mv_R_iff (i := .invokevirtual 249) (len := 3) (ax := [0, 176, 1, 5, 0, 0, 0, 1299, 1301, 95, 119, 1302]) (by decide +kernel))).trans (q_call0)
theorem e200_24 {y : Int32} {x : Int32} : mr200 S P 24 L (.int y :: .int x :: st) sh M c s = (if y < x then mr200 S P 79 L st sh M c s else mr200 S P 27 L st sh M c s) := (propext (mv_R_iff (i := .if_icmp .gt 55) (len := 3) (ax := [79]) (by decide +kernel))).trans (q_br)
theorem e200_27 : mr200 S P 27 L st sh M c s = (q_isI (q_gv L 2) ∧ mr200 S P 28 L (q_gv L 2 :: st) sh M c s) := (propext (mv_R_iff (i := .iload_n 2) (len := 1) (ax := []) (by decide +kernel))).trans (q_ldI_eq (K := fun st => mr200 S P 28 L st sh M c s))
theorem e200_28 : mr200 S P 28 L st sh M c s = (mr200 S P 30 L (.int (Int32.ofInt (-4)) :: st) sh M c s) := (propext (mv_R_iff (i := .bipush (-4)) (len := 2) (ax := []) (by decide +kernel))).trans (congrArg (fun z => mr200 S P 30 L (.int z :: st) sh M c s) (by decide : (Int8.ofInt (-4)).toInt32 = Int32.ofInt (-4)))
theorem e200_30 {y : Int32} {x : Int32} : mr200 S P 30 L (.int y :: .int x :: st) sh M c s = (if x = y then mr200 S P 44 L st sh M c s else mr200 S P 33 L st sh M c s) := (propext (mv_R_iff (i := .if_icmp .eq 14) (len := 3) (ax := [44]) (by decide +kernel))).trans (q_br)
theorem e200_33 : mr200 S P 33 L st sh M c s = (q_isI (q_gv L 3) ∧ mr200 S P 34 L (q_gv L 3 :: st) sh M c s) := (propext (mv_R_iff (i := .iload_n 3) (len := 1) (ax := []) (by decide +kernel))).trans (q_ldI_eq (K := fun st => mr200 S P 34 L st sh M c s))
theorem e200_34 {v1 : Value} : mr200 S P 34 L (v1 :: st) sh M c s = (mv_ss st ≤ 8 ∧ c ≤ 0 ∧ s ≤ 0 ∧ True ∧ mv_kal S 175 [v1] sh M (mr200 S P) 37 L st c s) := (propext (mv_R_iff (i := .invokestatic 255) (len := 3) (ax := [3, 175, 1, 0, 0, 0, 0, 1330, 1331, 119, 1332]) (by decide +kernel))).trans (q_call3)
theorem e200_37 : mr200 S P 37 L st sh M c s = (q_isI (q_gv L 2) ∧ mr200 S P 38 L (q_gv L 2 :: st) sh M c s) := (propext (mv_R_iff (i := .iload_n 2) (len := 1) (ax := []) (by decide +kernel))).trans (q_ldI_eq (K := fun st => mr200 S P 38 L st sh M c s))
theorem e200_38 {v1 : Value} : mr200 S P 38 L (v1 :: st) sh M c s = (mv_ss st ≤ 8 ∧ c ≤ 0 ∧ s ≤ 0 ∧ True ∧ mv_kal S 175 [v1] sh M (mr200 S P) 41 L st c s) := (propext (mv_R_iff (i := .invokestatic 255) (len := 3) (ax := [3, 175, 1, 0, 0, 0, 0, 1330, 1331, 119, 1332]) (by decide +kernel))).trans (q_call3)
theorem e200_41 {y : Int32} {x : Int32} : mr200 S P 41 L (.int y :: .int x :: st) sh M c s = (if y ≤ x then mr200 S P 48 L st sh M c s else mr200 S P 44 L st sh M c s) := (propext (mv_R_iff (i := .if_icmp .ge 7) (len := 3) (ax := [48]) (by decide +kernel))).trans (q_br)
theorem e200_44 : mr200 S P 44 L st sh M c s = (mr200 S P 45 L (.int (nI 1) :: st) sh M c s) := propext (mv_R_iff (i := .iconst 1) (len := 1) (ax := []) (by decide +kernel))
theorem e200_45 : mr200 S P 45 L st sh M c s = (mr200 S P 49 L st sh M c s) := propext (mv_R_iff (i := .goto 4) (len := 3) (ax := [49]) (by decide +kernel))
theorem e200_48 : mr200 S P 48 L st sh M c s = (mr200 S P 49 L (.int (nI 0) :: st) sh M c s) := propext (mv_R_iff (i := .iconst 0) (len := 1) (ax := []) (by decide +kernel))
theorem e200_49 {x : Int32} : mr200 S P 49 L (.int x :: st) sh M c s = (q_hs L 4 ∧ mr200 S P 51 (L.set 4 (some (.int x))) st sh M c s) := (propext (mv_R_iff (i := .istore 4) (len := 2) (ax := []) (by decide +kernel))).trans (q_st_eq (K := fun L => mr200 S P 51 L st sh M c s))
theorem e200_51 : mr200 S P 51 L st sh M c s = (q_isI (q_gv L 4) ∧ mr200 S P 53 L (q_gv L 4 :: st) sh M c s) := (propext (mv_R_iff (i := .iload 4) (len := 2) (ax := []) (by decide +kernel))).trans (q_ldI_eq (K := fun st => mr200 S P 53 L st sh M c s))
theorem e200_53 {x : Int32} : mr200 S P 53 L (.int x :: st) sh M c s = (if x = nI 0 then mr200 S P 71 L st sh M c s else mr200 S P 56 L st sh M c s) := (propext (mv_R_iff (i := .ifCond .eq 18) (len := 3) (ax := [71]) (by decide +kernel))).trans (q_br)
theorem e200_56 : mr200 S P 56 L st sh M c s = (q_isA (q_gv L 0) ∧ mr200 S P 57 L (q_gv L 0 :: st) sh M c s) := (propext (mv_R_iff (i := .aload_n 0) (len := 1) (ax := []) (by decide +kernel))).trans (q_ldA_eq (K := fun st => mr200 S P 57 L st sh M c s))
theorem e200_57 : mr200 S P 57 L st sh M c s = (q_isI (q_gv L 1) ∧ mr200 S P 58 L (q_gv L 1 :: st) sh M c s) := (propext (mv_R_iff (i := .iload_n 1) (len := 1) (ax := []) (by decide +kernel))).trans (q_ldI_eq (K := fun st => mr200 S P 58 L st sh M c s))
theorem e200_58 : mr200 S P 58 L st sh M c s = (q_isI (q_gv L 3) ∧ mr200 S P 59 L (q_gv L 3 :: st) sh M c s) := (propext (mv_R_iff (i := .iload_n 3) (len := 1) (ax := []) (by decide +kernel))).trans (q_ldI_eq (K := fun st => mr200 S P 59 L st sh M c s))
theorem e200_59 {v3 : Value} {v2 : Value} {v1 : Value} : mr200 S P 59 L (v3 :: v2 :: v1 :: st) sh M c s = (mv_ss st ≤ 8 ∧ c ≤ 0 ∧ s ≤ 0 ∧ mv_isO sh (some v1) 5 ∧ mv_kal S 179 [v1, v2, v3] sh M (mr200 S P) 62 L st c s) := (propext (mv_R_iff (i := .invokevirtual 252) (len := 3) (ax := [0, 179, 3, 5, 0, 0, 0, 1303, 1305, 96, 119, 1306]) (by decide +kernel))).trans (q_call0)
theorem e200_62 : mr200 S P 62 L st sh M c s = (mr200 S P 64 L (.int (Int32.ofInt (-4)) :: st) sh M c s) := (propext (mv_R_iff (i := .bipush (-4)) (len := 2) (ax := []) (by decide +kernel))).trans (congrArg (fun z => mr200 S P 64 L (.int z :: st) sh M c s) (by decide : (Int8.ofInt (-4)).toInt32 = Int32.ofInt (-4)))
theorem e200_64 {y : Int32} {x : Int32} : mr200 S P 64 L (.int y :: .int x :: st) sh M c s = (if x = y then mr200 S P 71 L st sh M c s else mr200 S P 67 L st sh M c s) := (propext (mv_R_iff (i := .if_icmp .eq 7) (len := 3) (ax := [71]) (by decide +kernel))).trans (q_br)
theorem e200_67 : mr200 S P 67 L st sh M c s = (q_isI (q_gv L 3) ∧ mr200 S P 68 L (q_gv L 3 :: st) sh M c s) := (propext (mv_R_iff (i := .iload_n 3) (len := 1) (ax := []) (by decide +kernel))).trans (q_ldI_eq (K := fun st => mr200 S P 68 L st sh M c s))
theorem e200_68 : mr200 S P 68 L st sh M c s = (mr200 S P 72 L st sh M c s) := propext (mv_R_iff (i := .goto 4) (len := 3) (ax := [72]) (by decide +kernel))
theorem e200_71 : mr200 S P 71 L st sh M c s = (q_isI (q_gv L 2) ∧ mr200 S P 72 L (q_gv L 2 :: st) sh M c s) := (propext (mv_R_iff (i := .iload_n 2) (len := 1) (ax := []) (by decide +kernel))).trans (q_ldI_eq (K := fun st => mr200 S P 72 L st sh M c s))
theorem e200_72 {x : Int32} : mr200 S P 72 L (.int x :: st) sh M c s = (q_hs L 2 ∧ mr200 S P 73 (L.set 2 (some (.int x))) st sh M c s) := (propext (mv_R_iff (i := .istore_n 2) (len := 1) (ax := []) (by decide +kernel))).trans (q_st_eq (K := fun L => mr200 S P 73 L st sh M c s))
theorem e200_73 : mr200 S P 73 L st sh M c s = ((q_isI (q_gv L 3) ∧ q_hs L 3) ∧ mr200 S P 76 (L.set 3 (some (q_inc (q_gv L 3) (nI 1)))) st sh M c s) := (propext (mv_R_iff (i := .iinc 3 1) (len := 3) (ax := []) (by decide +kernel))).trans (q_inc_eq (K := fun L => mr200 S P 76 L st sh M c s))
theorem e200_76 : mr200 S P 76 L st sh M c s = (mr200 S P 19 L st sh M c s) := propext (mv_R_iff (i := .goto (-57)) (len := 3) (ax := [19]) (by decide +kernel))
theorem e200_79 : mr200 S P 79 L st sh M c s = (q_isI (q_gv L 2) ∧ mr200 S P 80 L (q_gv L 2 :: st) sh M c s) := (propext (mv_R_iff (i := .iload_n 2) (len := 1) (ax := []) (by decide +kernel))).trans (q_ldI_eq (K := fun st => mr200 S P 80 L st sh M c s))
theorem e200_80 {x : Int32} : mr200 S P 80 L [.int x] sh M c s = (mv_nr 0 x ∧ P (some (.int x)) sh M) := propext (mv_R_iff (i := .ireturn) (len := 1) (ax := [0]) (by decide +kernel))
-- 201: TurnedTabletsModel.pack(I)I
def mk201 : mv_Cd := [
  (0, .aload_n 0, 1, []),
  (1, .iload_n 1, 1, []),
  (2, .invokevirtual 202, 3, [0, 193, 2, 5, 0, 0, 0, 1180, 1182, 81, 119, 1183]),
  (5, .ifCond .eq 12, 3, [17]),
  (8, .aload_n 0, 1, []),
  (9, .getfield 22, 3, [1033, 0, 5, 8]),
  (12, .iload_n 1, 1, []),
  (13, .iaload, 1, []),
  (14, .goto 4, 3, [18]),
  (17, .iconst (-1), 1, []),
  (18, .ireturn, 1, [0])]
def mr201 (S : Nat → mv_Sp) (P : mv_Post) : mv_Kt := mv_R mv_DF mk201 S (0, 0) P
theorem e201_0 : mr201 S P 0 L st sh M c s = (q_isA (q_gv L 0) ∧ mr201 S P 1 L (q_gv L 0 :: st) sh M c s) := (propext (mv_R_iff (i := .aload_n 0) (len := 1) (ax := []) (by decide +kernel))).trans (q_ldA_eq (K := fun st => mr201 S P 1 L st sh M c s))
theorem e201_1 : mr201 S P 1 L st sh M c s = (q_isI (q_gv L 1) ∧ mr201 S P 2 L (q_gv L 1 :: st) sh M c s) := (propext (mv_R_iff (i := .iload_n 1) (len := 1) (ax := []) (by decide +kernel))).trans (q_ldI_eq (K := fun st => mr201 S P 2 L st sh M c s))
theorem e201_2 {v2 : Value} {v1 : Value} : mr201 S P 2 L (v2 :: v1 :: st) sh M c s = (mv_ss st ≤ 8 ∧ c ≤ 0 ∧ s ≤ 0 ∧ mv_isO sh (some v1) 5 ∧ mv_kal S 193 [v1, v2] sh M (mr201 S P) 5 L st c s) := (propext (mv_R_iff (i := .invokevirtual 202) (len := 3) (ax := [0, 193, 2, 5, 0, 0, 0, 1180, 1182, 81, 119, 1183]) (by decide +kernel))).trans (q_call0)
theorem e201_5 {x : Int32} : mr201 S P 5 L (.int x :: st) sh M c s = (if x = nI 0 then mr201 S P 17 L st sh M c s else mr201 S P 8 L st sh M c s) := (propext (mv_R_iff (i := .ifCond .eq 12) (len := 3) (ax := [17]) (by decide +kernel))).trans (q_br)
theorem e201_8 : mr201 S P 8 L st sh M c s = (q_isA (q_gv L 0) ∧ mr201 S P 9 L (q_gv L 0 :: st) sh M c s) := (propext (mv_R_iff (i := .aload_n 0) (len := 1) (ax := []) (by decide +kernel))).trans (q_ldA_eq (K := fun st => mr201 S P 9 L st sh M c s))
theorem e201_9 {a : Nat} : mr201 S P 9 L (.ref a :: st) sh M c s = (mv_kgf sh M a 5 8 (mr201 S P) 12 L st c s) := propext (mv_R_iff (i := .getfield 22) (len := 3) (ax := [1033, 0, 5, 8]) (by decide +kernel))
theorem e201_12 : mr201 S P 12 L st sh M c s = (q_isI (q_gv L 1) ∧ mr201 S P 13 L (q_gv L 1 :: st) sh M c s) := (propext (mv_R_iff (i := .iload_n 1) (len := 1) (ax := []) (by decide +kernel))).trans (q_ldI_eq (K := fun st => mr201 S P 13 L st sh M c s))
theorem e201_13 {i : Int32} {a : Nat} : mr201 S P 13 L (.int i :: .ref a :: st) sh M c s = (mv_kld sh M a i (mr201 S P) 14 L st c s) := propext (mv_R_iff (i := .iaload) (len := 1) (ax := []) (by decide +kernel))
theorem e201_14 : mr201 S P 14 L st sh M c s = (mr201 S P 18 L st sh M c s) := propext (mv_R_iff (i := .goto 4) (len := 3) (ax := [18]) (by decide +kernel))
theorem e201_17 : mr201 S P 17 L st sh M c s = (mr201 S P 18 L (.int (Int32.ofInt (-1)) :: st) sh M c s) := propext (mv_R_iff (i := .iconst (-1)) (len := 1) (ax := []) (by decide +kernel))
theorem e201_18 {x : Int32} : mr201 S P 18 L [.int x] sh M c s = (mv_nr 0 x ∧ P (some (.int x)) sh M) := propext (mv_R_iff (i := .ireturn) (len := 1) (ax := [0]) (by decide +kernel))
-- 202: TurnedTabletsModel.round()I
def mk202 : mv_Cd := [
  (0, .aload_n 0, 1, []),
  (1, .getfield 160, 3, [1035, 0, 5, 10]),
  (4, .ifCond .ne 6, 3, [10]),
  (7, .bipush (-4), 2, []),
  (9, .ireturn, 1, [0]),
  (10, .iconst 1, 1, []),
  (11, .istore_n 1, 1, []),
  (12, .iconst 0, 1, []),
  (13, .istore_n 2, 1, []),
  (14, .iload_n 2, 1, []),
  (15, .aload_n 0, 1, []),
  (16, .getfield 151, 3, [1028, 0, 5, 3]),
  (19, .if_icmp .ge 50, 3, [69]),
  (22, .aload_n 0, 1, []),
  (23, .iload_n 2, 1, []),
  (24, .invokevirtual 218, 3, [0, 191, 2, 5, 0, 0, 0, 1271, 1273, 91, 119, 1274]),
  (27, .iconst 3, 1, []),
  (28, .iand, 1, []),
  (29, .istore_n 3, 1, []),
  (30, .iload_n 3, 1, []),
  (31, .ifCond .ne 7, 3, [38]),
  (34, .iconst 1, 1, []),
  (35, .goto 13, 3, [48]),
  (38, .iload_n 3, 1, []),
  (39, .iconst 2, 1, []),
  (40, .if_icmp .ne 7, 3, [47]),
  (43, .iconst 2, 1, []),
  (44, .goto 4, 3, [48]),
  (47, .iconst 4, 1, []),
  (48, .istore 4, 2, []),
  (50, .iload 4, 2, []),
  (52, .iload_n 1, 1, []),
  (53, .if_icmp .le 8, 3, [61]),
  (56, .iload 4, 2, []),
  (58, .goto 4, 3, [62]),
  (61, .iload_n 1, 1, []),
  (62, .istore_n 1, 1, []),
  (63, .iinc 2 1, 3, []),
  (66, .goto (-52), 3, [14]),
  (69, .iload_n 1, 1, []),
  (70, .ireturn, 1, [0])]
def mr202 (S : Nat → mv_Sp) (P : mv_Post) : mv_Kt := mv_R mv_DF mk202 S (0, 0) P
theorem e202_0 : mr202 S P 0 L st sh M c s = (q_isA (q_gv L 0) ∧ mr202 S P 1 L (q_gv L 0 :: st) sh M c s) := (propext (mv_R_iff (i := .aload_n 0) (len := 1) (ax := []) (by decide +kernel))).trans (q_ldA_eq (K := fun st => mr202 S P 1 L st sh M c s))
theorem e202_1 {a : Nat} : mr202 S P 1 L (.ref a :: st) sh M c s = (mv_kgf sh M a 5 10 (mr202 S P) 4 L st c s) := propext (mv_R_iff (i := .getfield 160) (len := 3) (ax := [1035, 0, 5, 10]) (by decide +kernel))
theorem e202_4 {x : Int32} : mr202 S P 4 L (.int x :: st) sh M c s = (if x = nI 0 then mr202 S P 7 L st sh M c s else mr202 S P 10 L st sh M c s) := (propext (mv_R_iff (i := .ifCond .ne 6) (len := 3) (ax := [10]) (by decide +kernel))).trans (q_br')
theorem e202_7 : mr202 S P 7 L st sh M c s = (mr202 S P 9 L (.int (Int32.ofInt (-4)) :: st) sh M c s) := (propext (mv_R_iff (i := .bipush (-4)) (len := 2) (ax := []) (by decide +kernel))).trans (congrArg (fun z => mr202 S P 9 L (.int z :: st) sh M c s) (by decide : (Int8.ofInt (-4)).toInt32 = Int32.ofInt (-4)))
theorem e202_9 {x : Int32} : mr202 S P 9 L [.int x] sh M c s = (mv_nr 0 x ∧ P (some (.int x)) sh M) := propext (mv_R_iff (i := .ireturn) (len := 1) (ax := [0]) (by decide +kernel))
theorem e202_10 : mr202 S P 10 L st sh M c s = (mr202 S P 11 L (.int (nI 1) :: st) sh M c s) := propext (mv_R_iff (i := .iconst 1) (len := 1) (ax := []) (by decide +kernel))
theorem e202_11 {x : Int32} : mr202 S P 11 L (.int x :: st) sh M c s = (q_hs L 1 ∧ mr202 S P 12 (L.set 1 (some (.int x))) st sh M c s) := (propext (mv_R_iff (i := .istore_n 1) (len := 1) (ax := []) (by decide +kernel))).trans (q_st_eq (K := fun L => mr202 S P 12 L st sh M c s))
theorem e202_12 : mr202 S P 12 L st sh M c s = (mr202 S P 13 L (.int (nI 0) :: st) sh M c s) := propext (mv_R_iff (i := .iconst 0) (len := 1) (ax := []) (by decide +kernel))
theorem e202_13 {x : Int32} : mr202 S P 13 L (.int x :: st) sh M c s = (q_hs L 2 ∧ mr202 S P 14 (L.set 2 (some (.int x))) st sh M c s) := (propext (mv_R_iff (i := .istore_n 2) (len := 1) (ax := []) (by decide +kernel))).trans (q_st_eq (K := fun L => mr202 S P 14 L st sh M c s))
theorem e202_14 : mr202 S P 14 L st sh M c s = (q_isI (q_gv L 2) ∧ mr202 S P 15 L (q_gv L 2 :: st) sh M c s) := (propext (mv_R_iff (i := .iload_n 2) (len := 1) (ax := []) (by decide +kernel))).trans (q_ldI_eq (K := fun st => mr202 S P 15 L st sh M c s))
theorem e202_15 : mr202 S P 15 L st sh M c s = (q_isA (q_gv L 0) ∧ mr202 S P 16 L (q_gv L 0 :: st) sh M c s) := (propext (mv_R_iff (i := .aload_n 0) (len := 1) (ax := []) (by decide +kernel))).trans (q_ldA_eq (K := fun st => mr202 S P 16 L st sh M c s))
theorem e202_16 {a : Nat} : mr202 S P 16 L (.ref a :: st) sh M c s = (mv_kgf sh M a 5 3 (mr202 S P) 19 L st c s) := propext (mv_R_iff (i := .getfield 151) (len := 3) (ax := [1028, 0, 5, 3]) (by decide +kernel))
theorem e202_19 {y : Int32} {x : Int32} : mr202 S P 19 L (.int y :: .int x :: st) sh M c s = (if y ≤ x then mr202 S P 69 L st sh M c s else mr202 S P 22 L st sh M c s) := (propext (mv_R_iff (i := .if_icmp .ge 50) (len := 3) (ax := [69]) (by decide +kernel))).trans (q_br)
theorem e202_22 : mr202 S P 22 L st sh M c s = (q_isA (q_gv L 0) ∧ mr202 S P 23 L (q_gv L 0 :: st) sh M c s) := (propext (mv_R_iff (i := .aload_n 0) (len := 1) (ax := []) (by decide +kernel))).trans (q_ldA_eq (K := fun st => mr202 S P 23 L st sh M c s))
theorem e202_23 : mr202 S P 23 L st sh M c s = (q_isI (q_gv L 2) ∧ mr202 S P 24 L (q_gv L 2 :: st) sh M c s) := (propext (mv_R_iff (i := .iload_n 2) (len := 1) (ax := []) (by decide +kernel))).trans (q_ldI_eq (K := fun st => mr202 S P 24 L st sh M c s))
theorem e202_24 {v2 : Value} {v1 : Value} : mr202 S P 24 L (v2 :: v1 :: st) sh M c s = (mv_ss st ≤ 8 ∧ c ≤ 0 ∧ s ≤ 0 ∧ mv_isO sh (some v1) 5 ∧ mv_kal S 191 [v1, v2] sh M (mr202 S P) 27 L st c s) := (propext (mv_R_iff (i := .invokevirtual 218) (len := 3) (ax := [0, 191, 2, 5, 0, 0, 0, 1271, 1273, 91, 119, 1274]) (by decide +kernel))).trans (q_call0)
theorem e202_27 : mr202 S P 27 L st sh M c s = (mr202 S P 28 L (.int (nI 3) :: st) sh M c s) := propext (mv_R_iff (i := .iconst 3) (len := 1) (ax := []) (by decide +kernel))
theorem e202_28 {y : Int32} {x : Int32} : mr202 S P 28 L (.int y :: .int x :: st) sh M c s = (mr202 S P 29 L (.int (x &&& y) :: st) sh M c s) := propext (mv_R_iff (i := .iand) (len := 1) (ax := []) (by decide +kernel))
theorem e202_29 {x : Int32} : mr202 S P 29 L (.int x :: st) sh M c s = (q_hs L 3 ∧ mr202 S P 30 (L.set 3 (some (.int x))) st sh M c s) := (propext (mv_R_iff (i := .istore_n 3) (len := 1) (ax := []) (by decide +kernel))).trans (q_st_eq (K := fun L => mr202 S P 30 L st sh M c s))
theorem e202_30 : mr202 S P 30 L st sh M c s = (q_isI (q_gv L 3) ∧ mr202 S P 31 L (q_gv L 3 :: st) sh M c s) := (propext (mv_R_iff (i := .iload_n 3) (len := 1) (ax := []) (by decide +kernel))).trans (q_ldI_eq (K := fun st => mr202 S P 31 L st sh M c s))
theorem e202_31 {x : Int32} : mr202 S P 31 L (.int x :: st) sh M c s = (if x = nI 0 then mr202 S P 34 L st sh M c s else mr202 S P 38 L st sh M c s) := (propext (mv_R_iff (i := .ifCond .ne 7) (len := 3) (ax := [38]) (by decide +kernel))).trans (q_br')
theorem e202_34 : mr202 S P 34 L st sh M c s = (mr202 S P 35 L (.int (nI 1) :: st) sh M c s) := propext (mv_R_iff (i := .iconst 1) (len := 1) (ax := []) (by decide +kernel))
theorem e202_35 : mr202 S P 35 L st sh M c s = (mr202 S P 48 L st sh M c s) := propext (mv_R_iff (i := .goto 13) (len := 3) (ax := [48]) (by decide +kernel))
theorem e202_38 : mr202 S P 38 L st sh M c s = (q_isI (q_gv L 3) ∧ mr202 S P 39 L (q_gv L 3 :: st) sh M c s) := (propext (mv_R_iff (i := .iload_n 3) (len := 1) (ax := []) (by decide +kernel))).trans (q_ldI_eq (K := fun st => mr202 S P 39 L st sh M c s))
theorem e202_39 : mr202 S P 39 L st sh M c s = (mr202 S P 40 L (.int (nI 2) :: st) sh M c s) := propext (mv_R_iff (i := .iconst 2) (len := 1) (ax := []) (by decide +kernel))
theorem e202_40 {y : Int32} {x : Int32} : mr202 S P 40 L (.int y :: .int x :: st) sh M c s = (if x = y then mr202 S P 43 L st sh M c s else mr202 S P 47 L st sh M c s) := (propext (mv_R_iff (i := .if_icmp .ne 7) (len := 3) (ax := [47]) (by decide +kernel))).trans (q_br')
theorem e202_43 : mr202 S P 43 L st sh M c s = (mr202 S P 44 L (.int (nI 2) :: st) sh M c s) := propext (mv_R_iff (i := .iconst 2) (len := 1) (ax := []) (by decide +kernel))
theorem e202_44 : mr202 S P 44 L st sh M c s = (mr202 S P 48 L st sh M c s) := propext (mv_R_iff (i := .goto 4) (len := 3) (ax := [48]) (by decide +kernel))
theorem e202_47 : mr202 S P 47 L st sh M c s = (mr202 S P 48 L (.int (nI 4) :: st) sh M c s) := propext (mv_R_iff (i := .iconst 4) (len := 1) (ax := []) (by decide +kernel))
theorem e202_48 {x : Int32} : mr202 S P 48 L (.int x :: st) sh M c s = (q_hs L 4 ∧ mr202 S P 50 (L.set 4 (some (.int x))) st sh M c s) := (propext (mv_R_iff (i := .istore 4) (len := 2) (ax := []) (by decide +kernel))).trans (q_st_eq (K := fun L => mr202 S P 50 L st sh M c s))
theorem e202_50 : mr202 S P 50 L st sh M c s = (q_isI (q_gv L 4) ∧ mr202 S P 52 L (q_gv L 4 :: st) sh M c s) := (propext (mv_R_iff (i := .iload 4) (len := 2) (ax := []) (by decide +kernel))).trans (q_ldI_eq (K := fun st => mr202 S P 52 L st sh M c s))
theorem e202_52 : mr202 S P 52 L st sh M c s = (q_isI (q_gv L 1) ∧ mr202 S P 53 L (q_gv L 1 :: st) sh M c s) := (propext (mv_R_iff (i := .iload_n 1) (len := 1) (ax := []) (by decide +kernel))).trans (q_ldI_eq (K := fun st => mr202 S P 53 L st sh M c s))
theorem e202_53 {y : Int32} {x : Int32} : mr202 S P 53 L (.int y :: .int x :: st) sh M c s = (if x ≤ y then mr202 S P 61 L st sh M c s else mr202 S P 56 L st sh M c s) := (propext (mv_R_iff (i := .if_icmp .le 8) (len := 3) (ax := [61]) (by decide +kernel))).trans (q_br)
theorem e202_56 : mr202 S P 56 L st sh M c s = (q_isI (q_gv L 4) ∧ mr202 S P 58 L (q_gv L 4 :: st) sh M c s) := (propext (mv_R_iff (i := .iload 4) (len := 2) (ax := []) (by decide +kernel))).trans (q_ldI_eq (K := fun st => mr202 S P 58 L st sh M c s))
theorem e202_58 : mr202 S P 58 L st sh M c s = (mr202 S P 62 L st sh M c s) := propext (mv_R_iff (i := .goto 4) (len := 3) (ax := [62]) (by decide +kernel))
theorem e202_61 : mr202 S P 61 L st sh M c s = (q_isI (q_gv L 1) ∧ mr202 S P 62 L (q_gv L 1 :: st) sh M c s) := (propext (mv_R_iff (i := .iload_n 1) (len := 1) (ax := []) (by decide +kernel))).trans (q_ldI_eq (K := fun st => mr202 S P 62 L st sh M c s))
theorem e202_62 {x : Int32} : mr202 S P 62 L (.int x :: st) sh M c s = (q_hs L 1 ∧ mr202 S P 63 (L.set 1 (some (.int x))) st sh M c s) := (propext (mv_R_iff (i := .istore_n 1) (len := 1) (ax := []) (by decide +kernel))).trans (q_st_eq (K := fun L => mr202 S P 63 L st sh M c s))
theorem e202_63 : mr202 S P 63 L st sh M c s = ((q_isI (q_gv L 2) ∧ q_hs L 2) ∧ mr202 S P 66 (L.set 2 (some (q_inc (q_gv L 2) (nI 1)))) st sh M c s) := (propext (mv_R_iff (i := .iinc 2 1) (len := 3) (ax := []) (by decide +kernel))).trans (q_inc_eq (K := fun L => mr202 S P 66 L st sh M c s))
theorem e202_66 : mr202 S P 66 L st sh M c s = (mr202 S P 14 L st sh M c s) := propext (mv_R_iff (i := .goto (-52)) (len := 3) (ax := [14]) (by decide +kernel))
theorem e202_69 : mr202 S P 69 L st sh M c s = (q_isI (q_gv L 1) ∧ mr202 S P 70 L (q_gv L 1 :: st) sh M c s) := (propext (mv_R_iff (i := .iload_n 1) (len := 1) (ax := []) (by decide +kernel))).trans (q_ldI_eq (K := fun st => mr202 S P 70 L st sh M c s))
theorem e202_70 {x : Int32} : mr202 S P 70 L [.int x] sh M c s = (mv_nr 0 x ∧ P (some (.int x)) sh M) := propext (mv_R_iff (i := .ireturn) (len := 1) (ax := [0]) (by decide +kernel))
-- 203: TurnedTabletsModel.row(II)I
def mk203 : mv_Cd := [
  (0, .iload_n 1, 1, []),
  (1, .ifCond .lt 13, 3, [14]),
  (4, .iload_n 2, 1, []),
  (5, .i2l, 1, []),
  (6, .lconst 0, 1, []),
  (7, .lconst 1, 1, []),
  (8, .invokestatic 92, 3, [3, 144, 3, 0, 0, 0, 0, 1007, 1008, 119, 1009]),
  (11, .ifCond .ne 5, 3, [16]),
  (14, .iconst (-1), 1, []),
  (15, .ireturn, 1, [0]),
  (16, .iload_n 1, 1, []),
  (17, .aload_n 0, 1, []),
  (18, .getfield 7, 3, [1025, 0, 5, 0]),
  (21, .bipush 30, 2, []),
  (23, .iaload, 1, []),
  (24, .if_icmp .ge 20, 3, [44]),
  (27, .aload_n 0, 1, []),
  (28, .getfield 7, 3, [1025, 0, 5, 0]),
  (31, .bipush 31, 2, []),
  (33, .bipush 32, 2, []),
  (35, .iload_n 1, 1, []),
  (36, .imul, 1, []),
  (37, .iadd, 1, []),
  (38, .iload_n 2, 1, []),
  (39, .iadd, 1, []),
  (40, .iaload, 1, []),
  (41, .goto 5, 3, [46]),
  (44, .bipush (-4), 2, []),
  (46, .ireturn, 1, [0])]
def mr203 (S : Nat → mv_Sp) (P : mv_Post) : mv_Kt := mv_R mv_DF mk203 S (0, 0) P
theorem e203_0 : mr203 S P 0 L st sh M c s = (q_isI (q_gv L 1) ∧ mr203 S P 1 L (q_gv L 1 :: st) sh M c s) := (propext (mv_R_iff (i := .iload_n 1) (len := 1) (ax := []) (by decide +kernel))).trans (q_ldI_eq (K := fun st => mr203 S P 1 L st sh M c s))
theorem e203_1 {x : Int32} : mr203 S P 1 L (.int x :: st) sh M c s = (if x < nI 0 then mr203 S P 14 L st sh M c s else mr203 S P 4 L st sh M c s) := (propext (mv_R_iff (i := .ifCond .lt 13) (len := 3) (ax := [14]) (by decide +kernel))).trans (q_br)
theorem e203_4 : mr203 S P 4 L st sh M c s = (q_isI (q_gv L 2) ∧ mr203 S P 5 L (q_gv L 2 :: st) sh M c s) := (propext (mv_R_iff (i := .iload_n 2) (len := 1) (ax := []) (by decide +kernel))).trans (q_ldI_eq (K := fun st => mr203 S P 5 L st sh M c s))
theorem e203_5 {x : Int32} : mr203 S P 5 L (.int x :: st) sh M c s = (mr203 S P 6 L (.long x.toInt64 :: st) sh M c s) := propext (mv_R_iff (i := .i2l) (len := 1) (ax := []) (by decide +kernel))
theorem e203_6 : mr203 S P 6 L st sh M c s = (mr203 S P 7 L (.long (lN 0) :: st) sh M c s) := propext (mv_R_iff (i := .lconst 0) (len := 1) (ax := []) (by decide +kernel))
theorem e203_7 : mr203 S P 7 L st sh M c s = (mr203 S P 8 L (.long (lN 1) :: st) sh M c s) := propext (mv_R_iff (i := .lconst 1) (len := 1) (ax := []) (by decide +kernel))
theorem e203_8 {v3 : Value} {v2 : Value} {v1 : Value} : mr203 S P 8 L (v3 :: v2 :: v1 :: st) sh M c s = (mv_ss st ≤ 8 ∧ c ≤ 0 ∧ s ≤ 0 ∧ True ∧ mv_kal S 144 [v1, v2, v3] sh M (mr203 S P) 11 L st c s) := (propext (mv_R_iff (i := .invokestatic 92) (len := 3) (ax := [3, 144, 3, 0, 0, 0, 0, 1007, 1008, 119, 1009]) (by decide +kernel))).trans (q_call3)
theorem e203_11 {x : Int32} : mr203 S P 11 L (.int x :: st) sh M c s = (if x = nI 0 then mr203 S P 14 L st sh M c s else mr203 S P 16 L st sh M c s) := (propext (mv_R_iff (i := .ifCond .ne 5) (len := 3) (ax := [16]) (by decide +kernel))).trans (q_br')
theorem e203_14 : mr203 S P 14 L st sh M c s = (mr203 S P 15 L (.int (Int32.ofInt (-1)) :: st) sh M c s) := propext (mv_R_iff (i := .iconst (-1)) (len := 1) (ax := []) (by decide +kernel))
theorem e203_15 {x : Int32} : mr203 S P 15 L [.int x] sh M c s = (mv_nr 0 x ∧ P (some (.int x)) sh M) := propext (mv_R_iff (i := .ireturn) (len := 1) (ax := [0]) (by decide +kernel))
theorem e203_16 : mr203 S P 16 L st sh M c s = (q_isI (q_gv L 1) ∧ mr203 S P 17 L (q_gv L 1 :: st) sh M c s) := (propext (mv_R_iff (i := .iload_n 1) (len := 1) (ax := []) (by decide +kernel))).trans (q_ldI_eq (K := fun st => mr203 S P 17 L st sh M c s))
theorem e203_17 : mr203 S P 17 L st sh M c s = (q_isA (q_gv L 0) ∧ mr203 S P 18 L (q_gv L 0 :: st) sh M c s) := (propext (mv_R_iff (i := .aload_n 0) (len := 1) (ax := []) (by decide +kernel))).trans (q_ldA_eq (K := fun st => mr203 S P 18 L st sh M c s))
theorem e203_18 {a : Nat} : mr203 S P 18 L (.ref a :: st) sh M c s = (mv_kgf sh M a 5 0 (mr203 S P) 21 L st c s) := propext (mv_R_iff (i := .getfield 7) (len := 3) (ax := [1025, 0, 5, 0]) (by decide +kernel))
theorem e203_21 : mr203 S P 21 L st sh M c s = (mr203 S P 23 L (.int (nI 30) :: st) sh M c s) := propext (mv_R_iff (i := .bipush 30) (len := 2) (ax := []) (by decide +kernel))
theorem e203_23 {i : Int32} {a : Nat} : mr203 S P 23 L (.int i :: .ref a :: st) sh M c s = (mv_kld sh M a i (mr203 S P) 24 L st c s) := propext (mv_R_iff (i := .iaload) (len := 1) (ax := []) (by decide +kernel))
theorem e203_24 {y : Int32} {x : Int32} : mr203 S P 24 L (.int y :: .int x :: st) sh M c s = (if y ≤ x then mr203 S P 44 L st sh M c s else mr203 S P 27 L st sh M c s) := (propext (mv_R_iff (i := .if_icmp .ge 20) (len := 3) (ax := [44]) (by decide +kernel))).trans (q_br)
theorem e203_27 : mr203 S P 27 L st sh M c s = (q_isA (q_gv L 0) ∧ mr203 S P 28 L (q_gv L 0 :: st) sh M c s) := (propext (mv_R_iff (i := .aload_n 0) (len := 1) (ax := []) (by decide +kernel))).trans (q_ldA_eq (K := fun st => mr203 S P 28 L st sh M c s))
theorem e203_28 {a : Nat} : mr203 S P 28 L (.ref a :: st) sh M c s = (mv_kgf sh M a 5 0 (mr203 S P) 31 L st c s) := propext (mv_R_iff (i := .getfield 7) (len := 3) (ax := [1025, 0, 5, 0]) (by decide +kernel))
theorem e203_31 : mr203 S P 31 L st sh M c s = (mr203 S P 33 L (.int (nI 31) :: st) sh M c s) := propext (mv_R_iff (i := .bipush 31) (len := 2) (ax := []) (by decide +kernel))
theorem e203_33 : mr203 S P 33 L st sh M c s = (mr203 S P 35 L (.int (nI 32) :: st) sh M c s) := propext (mv_R_iff (i := .bipush 32) (len := 2) (ax := []) (by decide +kernel))
theorem e203_35 : mr203 S P 35 L st sh M c s = (q_isI (q_gv L 1) ∧ mr203 S P 36 L (q_gv L 1 :: st) sh M c s) := (propext (mv_R_iff (i := .iload_n 1) (len := 1) (ax := []) (by decide +kernel))).trans (q_ldI_eq (K := fun st => mr203 S P 36 L st sh M c s))
theorem e203_36 {y : Int32} {x : Int32} : mr203 S P 36 L (.int y :: .int x :: st) sh M c s = (mr203 S P 37 L (.int (x * y) :: st) sh M c s) := propext (mv_R_iff (i := .imul) (len := 1) (ax := []) (by decide +kernel))
theorem e203_37 {y : Int32} {x : Int32} : mr203 S P 37 L (.int y :: .int x :: st) sh M c s = (mr203 S P 38 L (.int (x + y) :: st) sh M c s) := propext (mv_R_iff (i := .iadd) (len := 1) (ax := []) (by decide +kernel))
theorem e203_38 : mr203 S P 38 L st sh M c s = (q_isI (q_gv L 2) ∧ mr203 S P 39 L (q_gv L 2 :: st) sh M c s) := (propext (mv_R_iff (i := .iload_n 2) (len := 1) (ax := []) (by decide +kernel))).trans (q_ldI_eq (K := fun st => mr203 S P 39 L st sh M c s))
theorem e203_39 {y : Int32} {x : Int32} : mr203 S P 39 L (.int y :: .int x :: st) sh M c s = (mr203 S P 40 L (.int (x + y) :: st) sh M c s) := propext (mv_R_iff (i := .iadd) (len := 1) (ax := []) (by decide +kernel))
theorem e203_40 {i : Int32} {a : Nat} : mr203 S P 40 L (.int i :: .ref a :: st) sh M c s = (mv_kld sh M a i (mr203 S P) 41 L st c s) := propext (mv_R_iff (i := .iaload) (len := 1) (ax := []) (by decide +kernel))
theorem e203_41 : mr203 S P 41 L st sh M c s = (mr203 S P 46 L st sh M c s) := propext (mv_R_iff (i := .goto 5) (len := 3) (ax := [46]) (by decide +kernel))
theorem e203_44 : mr203 S P 44 L st sh M c s = (mr203 S P 46 L (.int (Int32.ofInt (-4)) :: st) sh M c s) := (propext (mv_R_iff (i := .bipush (-4)) (len := 2) (ax := []) (by decide +kernel))).trans (congrArg (fun z => mr203 S P 46 L (.int z :: st) sh M c s) (by decide : (Int8.ofInt (-4)).toInt32 = Int32.ofInt (-4)))
theorem e203_46 {x : Int32} : mr203 S P 46 L [.int x] sh M c s = (mv_nr 0 x ∧ P (some (.int x)) sh M) := propext (mv_R_iff (i := .ireturn) (len := 1) (ax := [0]) (by decide +kernel))
-- 204: TurnedTabletsModel.see(I)I
def mk204 : mv_Cd := [
  (0, .aload_n 0, 1, []),
  (1, .iload_n 1, 1, []),
  (2, .invokevirtual 243, 3, [0, 167, 2, 5, 0, 0, 0, 1287, 1289, 92, 119, 1290]),
  (5, .ifCond .ne 5, 3, [10]),
  (8, .iconst (-1), 1, []),
  (9, .ireturn, 1, [0]),
  (10, .aload_n 0, 1, []),
  (11, .getfield 169, 3, [1039, 0, 5, 14]),
  (14, .bipush 6, 2, []),
  (16, .if_icmp .ne 6, 3, [22]),
  (19, .bipush (-3), 2, []),
  (21, .ireturn, 1, [0]),
  (22, .aload_n 0, 1, []),
  (23, .getfield 31, 3, [1040, 0, 5, 15]),
  (26, .aload_n 0, 1, []),
  (27, .getfield 169, 3, [1039, 0, 5, 14]),
  (30, .iload_n 1, 1, []),
  (31, .iastore, 1, []),
  (32, .aload_n 0, 1, []),
  (33, .dup, 1, []),
  (34, .getfield 169, 3, [1039, 0, 5, 14]),
  (37, .iconst 1, 1, []),
  (38, .iadd, 1, []),
  (39, .putfield 169, 3, [1039, 0, 5, 14, 0]),
  (42, .aload_n 0, 1, []),
  (43, .getfield 169, 3, [1039, 0, 5, 14]),
  (46, .ireturn, 1, [0])]
def mr204 (S : Nat → mv_Sp) (P : mv_Post) : mv_Kt := mv_R mv_DF mk204 S (0, 0) P
theorem e204_0 : mr204 S P 0 L st sh M c s = (q_isA (q_gv L 0) ∧ mr204 S P 1 L (q_gv L 0 :: st) sh M c s) := (propext (mv_R_iff (i := .aload_n 0) (len := 1) (ax := []) (by decide +kernel))).trans (q_ldA_eq (K := fun st => mr204 S P 1 L st sh M c s))
theorem e204_1 : mr204 S P 1 L st sh M c s = (q_isI (q_gv L 1) ∧ mr204 S P 2 L (q_gv L 1 :: st) sh M c s) := (propext (mv_R_iff (i := .iload_n 1) (len := 1) (ax := []) (by decide +kernel))).trans (q_ldI_eq (K := fun st => mr204 S P 2 L st sh M c s))
theorem e204_2 {v2 : Value} {v1 : Value} : mr204 S P 2 L (v2 :: v1 :: st) sh M c s = (mv_ss st ≤ 8 ∧ c ≤ 0 ∧ s ≤ 0 ∧ mv_isO sh (some v1) 5 ∧ mv_kal S 167 [v1, v2] sh M (mr204 S P) 5 L st c s) := (propext (mv_R_iff (i := .invokevirtual 243) (len := 3) (ax := [0, 167, 2, 5, 0, 0, 0, 1287, 1289, 92, 119, 1290]) (by decide +kernel))).trans (q_call0)
theorem e204_5 {x : Int32} : mr204 S P 5 L (.int x :: st) sh M c s = (if x = nI 0 then mr204 S P 8 L st sh M c s else mr204 S P 10 L st sh M c s) := (propext (mv_R_iff (i := .ifCond .ne 5) (len := 3) (ax := [10]) (by decide +kernel))).trans (q_br')
theorem e204_8 : mr204 S P 8 L st sh M c s = (mr204 S P 9 L (.int (Int32.ofInt (-1)) :: st) sh M c s) := propext (mv_R_iff (i := .iconst (-1)) (len := 1) (ax := []) (by decide +kernel))
theorem e204_9 {x : Int32} : mr204 S P 9 L [.int x] sh M c s = (mv_nr 0 x ∧ P (some (.int x)) sh M) := propext (mv_R_iff (i := .ireturn) (len := 1) (ax := [0]) (by decide +kernel))
theorem e204_10 : mr204 S P 10 L st sh M c s = (q_isA (q_gv L 0) ∧ mr204 S P 11 L (q_gv L 0 :: st) sh M c s) := (propext (mv_R_iff (i := .aload_n 0) (len := 1) (ax := []) (by decide +kernel))).trans (q_ldA_eq (K := fun st => mr204 S P 11 L st sh M c s))
theorem e204_11 {a : Nat} : mr204 S P 11 L (.ref a :: st) sh M c s = (mv_kgf sh M a 5 14 (mr204 S P) 14 L st c s) := propext (mv_R_iff (i := .getfield 169) (len := 3) (ax := [1039, 0, 5, 14]) (by decide +kernel))
theorem e204_14 : mr204 S P 14 L st sh M c s = (mr204 S P 16 L (.int (nI 6) :: st) sh M c s) := propext (mv_R_iff (i := .bipush 6) (len := 2) (ax := []) (by decide +kernel))
theorem e204_16 {y : Int32} {x : Int32} : mr204 S P 16 L (.int y :: .int x :: st) sh M c s = (if x = y then mr204 S P 19 L st sh M c s else mr204 S P 22 L st sh M c s) := (propext (mv_R_iff (i := .if_icmp .ne 6) (len := 3) (ax := [22]) (by decide +kernel))).trans (q_br')
theorem e204_19 : mr204 S P 19 L st sh M c s = (mr204 S P 21 L (.int (Int32.ofInt (-3)) :: st) sh M c s) := (propext (mv_R_iff (i := .bipush (-3)) (len := 2) (ax := []) (by decide +kernel))).trans (congrArg (fun z => mr204 S P 21 L (.int z :: st) sh M c s) (by decide : (Int8.ofInt (-3)).toInt32 = Int32.ofInt (-3)))
theorem e204_21 {x : Int32} : mr204 S P 21 L [.int x] sh M c s = (mv_nr 0 x ∧ P (some (.int x)) sh M) := propext (mv_R_iff (i := .ireturn) (len := 1) (ax := [0]) (by decide +kernel))
theorem e204_22 : mr204 S P 22 L st sh M c s = (q_isA (q_gv L 0) ∧ mr204 S P 23 L (q_gv L 0 :: st) sh M c s) := (propext (mv_R_iff (i := .aload_n 0) (len := 1) (ax := []) (by decide +kernel))).trans (q_ldA_eq (K := fun st => mr204 S P 23 L st sh M c s))
theorem e204_23 {a : Nat} : mr204 S P 23 L (.ref a :: st) sh M c s = (mv_kgf sh M a 5 15 (mr204 S P) 26 L st c s) := propext (mv_R_iff (i := .getfield 31) (len := 3) (ax := [1040, 0, 5, 15]) (by decide +kernel))
theorem e204_26 : mr204 S P 26 L st sh M c s = (q_isA (q_gv L 0) ∧ mr204 S P 27 L (q_gv L 0 :: st) sh M c s) := (propext (mv_R_iff (i := .aload_n 0) (len := 1) (ax := []) (by decide +kernel))).trans (q_ldA_eq (K := fun st => mr204 S P 27 L st sh M c s))
theorem e204_27 {a : Nat} : mr204 S P 27 L (.ref a :: st) sh M c s = (mv_kgf sh M a 5 14 (mr204 S P) 30 L st c s) := propext (mv_R_iff (i := .getfield 169) (len := 3) (ax := [1039, 0, 5, 14]) (by decide +kernel))
theorem e204_30 : mr204 S P 30 L st sh M c s = (q_isI (q_gv L 1) ∧ mr204 S P 31 L (q_gv L 1 :: st) sh M c s) := (propext (mv_R_iff (i := .iload_n 1) (len := 1) (ax := []) (by decide +kernel))).trans (q_ldI_eq (K := fun st => mr204 S P 31 L st sh M c s))
theorem e204_31 {x : Int32} {i : Int32} {a : Nat} : mr204 S P 31 L (.int x :: .int i :: .ref a :: st) sh M c s = (mv_kst sh M a i x (mr204 S P) 32 L st c s) := propext (mv_R_iff (i := .iastore) (len := 1) (ax := []) (by decide +kernel))
theorem e204_32 : mr204 S P 32 L st sh M c s = (q_isA (q_gv L 0) ∧ mr204 S P 33 L (q_gv L 0 :: st) sh M c s) := (propext (mv_R_iff (i := .aload_n 0) (len := 1) (ax := []) (by decide +kernel))).trans (q_ldA_eq (K := fun st => mr204 S P 33 L st sh M c s))
theorem e204_33 {x : Int32} : mr204 S P 33 L (.int x :: st) sh M c s = (mr204 S P 34 L (.int x :: .int x :: st) sh M c s) := propext (mv_R_iff (i := .dup) (len := 1) (ax := []) (by decide +kernel))
theorem e204_33r {x : Nat} : mr204 S P 33 L (.ref x :: st) sh M c s = (mr204 S P 34 L (.ref x :: .ref x :: st) sh M c s) := propext (mv_R_iff (i := .dup) (len := 1) (ax := []) (by decide +kernel))
theorem e204_34 {a : Nat} : mr204 S P 34 L (.ref a :: st) sh M c s = (mv_kgf sh M a 5 14 (mr204 S P) 37 L st c s) := propext (mv_R_iff (i := .getfield 169) (len := 3) (ax := [1039, 0, 5, 14]) (by decide +kernel))
theorem e204_37 : mr204 S P 37 L st sh M c s = (mr204 S P 38 L (.int (nI 1) :: st) sh M c s) := propext (mv_R_iff (i := .iconst 1) (len := 1) (ax := []) (by decide +kernel))
theorem e204_38 {y : Int32} {x : Int32} : mr204 S P 38 L (.int y :: .int x :: st) sh M c s = (mr204 S P 39 L (.int (x + y) :: st) sh M c s) := propext (mv_R_iff (i := .iadd) (len := 1) (ax := []) (by decide +kernel))
theorem e204_39 {x : Int32} {a : Nat} : mr204 S P 39 L (.int x :: .ref a :: st) sh M c s = (True ∧ mv_kpf sh M a 5 14 x (mr204 S P) 42 L st c s) := propext (mv_R_iff (i := .putfield 169) (len := 3) (ax := [1039, 0, 5, 14, 0]) (by decide +kernel))
theorem e204_42 : mr204 S P 42 L st sh M c s = (q_isA (q_gv L 0) ∧ mr204 S P 43 L (q_gv L 0 :: st) sh M c s) := (propext (mv_R_iff (i := .aload_n 0) (len := 1) (ax := []) (by decide +kernel))).trans (q_ldA_eq (K := fun st => mr204 S P 43 L st sh M c s))
theorem e204_43 {a : Nat} : mr204 S P 43 L (.ref a :: st) sh M c s = (mv_kgf sh M a 5 14 (mr204 S P) 46 L st c s) := propext (mv_R_iff (i := .getfield 169) (len := 3) (ax := [1039, 0, 5, 14]) (by decide +kernel))
theorem e204_46 {x : Int32} : mr204 S P 46 L [.int x] sh M c s = (mv_nr 0 x ∧ P (some (.int x)) sh M) := propext (mv_R_iff (i := .ireturn) (len := 1) (ax := [0]) (by decide +kernel))
-- 205: TurnedTabletsModel.slips(IIII)I
def mk205 : mv_Cd := [
  (0, .aload_n 0, 1, []),
  (1, .iload_n 1, 1, []),
  (2, .invokevirtual 202, 3, [0, 193, 2, 5, 0, 0, 0, 1180, 1182, 81, 119, 1183]),
  (5, .ifCond .eq 33, 3, [38]),
  (8, .iload_n 2, 1, []),
  (9, .invokestatic 209, 3, [3, 194, 1, 0, 0, 0, 0, 1208, 1209, 119, 1210]),
  (12, .ifCond .eq 26, 3, [38]),
  (15, .iload_n 3, 1, []),
  (16, .i2l, 1, []),
  (17, .lconst 0, 1, []),
  (18, .ldc2_w 264, 3, [1365, 10]),
  (21, .invokestatic 92, 3, [3, 144, 3, 0, 0, 0, 0, 1007, 1008, 119, 1009]),
  (24, .ifCond .eq 14, 3, [38]),
  (27, .iload 4, 2, []),
  (29, .i2l, 1, []),
  (30, .lconst 0, 1, []),
  (31, .lconst 1, 1, []),
  (32, .invokestatic 92, 3, [3, 144, 3, 0, 0, 0, 0, 1007, 1008, 119, 1009]),
  (35, .ifCond .ne 5, 3, [40]),
  (38, .iconst (-1), 1, []),
  (39, .ireturn, 1, [0]),
  (40, .aload_n 0, 1, []),
  (41, .iconst 0, 1, []),
  (42, .sipush 8789, 3, []),
  (45, .invokevirtual 205, 3, [0, 156, 3, 5, 0, 0, 0, 1215, 1217, 85, 119, 1218]),
  (48, .aload_n 0, 1, []),
  (49, .sipush 8789, 3, []),
  (52, .iload_n 1, 1, []),
  (53, .iload_n 2, 1, []),
  (54, .invokevirtual 186, 3, [0, 161, 4, 5, 0, 0, 0, 1223, 1225, 87, 119, 1226]),
  (57, .pop, 1, []),
  (58, .aload_n 0, 1, []),
  (59, .sipush 8789, 3, []),
  (62, .invokevirtual 190, 3, [0, 162, 2, 5, 0, 0, 0, 1192, 1194, 82, 119, 1195]),
  (65, .istore 5, 2, []),
  (67, .iconst 0, 1, []),
  (68, .istore 6, 2, []),
  (70, .iconst 0, 1, []),
  (71, .istore 7, 2, []),
  (73, .iconst 0, 1, []),
  (74, .istore 8, 2, []),
  (76, .iload 8, 2, []),
  (78, .bipush 64, 2, []),
  (80, .if_icmp .ge 144, 3, [224]),
  (83, .iload 8, 2, []),
  (85, .aload_n 0, 1, []),
  (86, .getfield 22, 3, [1033, 0, 5, 8]),
  (89, .iload_n 1, 1, []),
  (90, .iaload, 1, []),
  (91, .iconst (-1), 1, []),
  (92, .ixor, 1, []),
  (93, .iand, 1, []),
  (94, .ifCond .ne 7, 3, [101]),
  (97, .iconst 1, 1, []),
  (98, .goto 4, 3, [102]),
  (101, .iconst 0, 1, []),
  (102, .istore 9, 2, []),
  (104, .aload_n 0, 1, []),
  (105, .iconst 0, 1, []),
  (106, .sipush 8789, 3, []),
  (109, .invokevirtual 205, 3, [0, 156, 3, 5, 0, 0, 0, 1215, 1217, 85, 119, 1218]),
  (112, .iconst 0, 1, []),
  (113, .istore 10, 2, []),
  (115, .iload 10, 2, []),
  (117, .aload_n 0, 1, []),
  (118, .getfield 151, 3, [1028, 0, 5, 3]),
  (121, .if_icmp .ge 67, 3, [188]),
  (124, .aload_n 0, 1, []),
  (125, .getfield 22, 3, [1033, 0, 5, 8]),
  (128, .iload_n 1, 1, []),
  (129, .iaload, 1, []),
  (130, .iload 10, 2, []),
  (132, .invokestatic 124, 3, [3, 148, 2, 0, 0, 0, 0, 1014, 1015, 119, 1016]),
  (135, .ifCond .eq 47, 3, [182]),
  (138, .iload 9, 2, []),
  (140, .iload 8, 2, []),
  (142, .iload 10, 2, []),
  (144, .invokestatic 124, 3, [3, 148, 2, 0, 0, 0, 0, 1014, 1015, 119, 1016]),
  (147, .ifCond .eq 7, 3, [154]),
  (150, .iload_n 3, 1, []),
  (151, .goto 7, 3, [158]),
  (154, .bipush 10, 2, []),
  (156, .iload_n 3, 1, []),
  (157, .isub, 1, []),
  (158, .imul, 1, []),
  (159, .istore 9, 2, []),
  (161, .iload 8, 2, []),
  (163, .iload 10, 2, []),
  (165, .invokestatic 124, 3, [3, 148, 2, 0, 0, 0, 0, 1014, 1015, 119, 1016]),
  (168, .ifCond .ne 14, 3, [182]),
  (171, .aload_n 0, 1, []),
  (172, .sipush 8789, 3, []),
  (175, .iload 10, 2, []),
  (177, .iload_n 2, 1, []),
  (178, .invokevirtual 183, 3, [0, 160, 4, 5, 0, 0, 0, 1235, 1237, 90, 119, 1238]),
  (181, .pop, 1, []),
  (182, .iinc 10 1, 3, []),
  (185, .goto (-70), 3, [115]),
  (188, .iload 6, 2, []),
  (190, .aload_n 0, 1, []),
  (191, .sipush 8789, 3, []),
  (194, .invokevirtual 190, 3, [0, 162, 2, 5, 0, 0, 0, 1192, 1194, 82, 119, 1195]),
  (197, .iload 5, 2, []),
  (199, .if_icmp .ne 8, 3, [207]),
  (202, .iload 9, 2, []),
  (204, .goto 4, 3, [208]),
  (207, .iconst 0, 1, []),
  (208, .iadd, 1, []),
  (209, .istore 6, 2, []),
  (211, .iload 7, 2, []),
  (213, .iload 9, 2, []),
  (215, .iadd, 1, []),
  (216, .istore 7, 2, []),
  (218, .iinc 8 1, 3, []),
  (221, .goto (-145), 3, [76]),
  (224, .iload 6, 2, []),
  (226, .istore 8, 2, []),
  (228, .iload 7, 2, []),
  (230, .istore 9, 2, []),
  (232, .iload 9, 2, []),
  (234, .ifCond .eq 21, 3, [255]),
  (237, .iload 8, 2, []),
  (239, .iload 9, 2, []),
  (241, .irem, 1, []),
  (242, .istore 10, 2, []),
  (244, .iload 9, 2, []),
  (246, .istore 8, 2, []),
  (248, .iload 10, 2, []),
  (250, .istore 9, 2, []),
  (252, .goto (-20), 3, [232]),
  (255, .iload 4, 2, []),
  (257, .ifCond .ne 11, 3, [268]),
  (260, .iload 6, 2, []),
  (262, .iload 8, 2, []),
  (264, .idiv, 1, []),
  (265, .goto 8, 3, [273]),
  (268, .iload 7, 2, []),
  (270, .iload 8, 2, []),
  (272, .idiv, 1, []),
  (273, .ireturn, 1, [0])]
def mr205 (S : Nat → mv_Sp) (P : mv_Post) : mv_Kt := mv_R mv_DF mk205 S (0, 0) P
theorem e205_0 : mr205 S P 0 L st sh M c s = (q_isA (q_gv L 0) ∧ mr205 S P 1 L (q_gv L 0 :: st) sh M c s) := (propext (mv_R_iff (i := .aload_n 0) (len := 1) (ax := []) (by decide +kernel))).trans (q_ldA_eq (K := fun st => mr205 S P 1 L st sh M c s))
theorem e205_1 : mr205 S P 1 L st sh M c s = (q_isI (q_gv L 1) ∧ mr205 S P 2 L (q_gv L 1 :: st) sh M c s) := (propext (mv_R_iff (i := .iload_n 1) (len := 1) (ax := []) (by decide +kernel))).trans (q_ldI_eq (K := fun st => mr205 S P 2 L st sh M c s))
theorem e205_2 {v2 : Value} {v1 : Value} : mr205 S P 2 L (v2 :: v1 :: st) sh M c s = (mv_ss st ≤ 8 ∧ c ≤ 0 ∧ s ≤ 0 ∧ mv_isO sh (some v1) 5 ∧ mv_kal S 193 [v1, v2] sh M (mr205 S P) 5 L st c s) := (propext (mv_R_iff (i := .invokevirtual 202) (len := 3) (ax := [0, 193, 2, 5, 0, 0, 0, 1180, 1182, 81, 119, 1183]) (by decide +kernel))).trans (q_call0)
theorem e205_5 {x : Int32} : mr205 S P 5 L (.int x :: st) sh M c s = (if x = nI 0 then mr205 S P 38 L st sh M c s else mr205 S P 8 L st sh M c s) := (propext (mv_R_iff (i := .ifCond .eq 33) (len := 3) (ax := [38]) (by decide +kernel))).trans (q_br)
theorem e205_8 : mr205 S P 8 L st sh M c s = (q_isI (q_gv L 2) ∧ mr205 S P 9 L (q_gv L 2 :: st) sh M c s) := (propext (mv_R_iff (i := .iload_n 2) (len := 1) (ax := []) (by decide +kernel))).trans (q_ldI_eq (K := fun st => mr205 S P 9 L st sh M c s))
theorem e205_9 {v1 : Value} : mr205 S P 9 L (v1 :: st) sh M c s = (mv_ss st ≤ 8 ∧ c ≤ 0 ∧ s ≤ 0 ∧ True ∧ mv_kal S 194 [v1] sh M (mr205 S P) 12 L st c s) := (propext (mv_R_iff (i := .invokestatic 209) (len := 3) (ax := [3, 194, 1, 0, 0, 0, 0, 1208, 1209, 119, 1210]) (by decide +kernel))).trans (q_call3)
theorem e205_12 {x : Int32} : mr205 S P 12 L (.int x :: st) sh M c s = (if x = nI 0 then mr205 S P 38 L st sh M c s else mr205 S P 15 L st sh M c s) := (propext (mv_R_iff (i := .ifCond .eq 26) (len := 3) (ax := [38]) (by decide +kernel))).trans (q_br)
theorem e205_15 : mr205 S P 15 L st sh M c s = (q_isI (q_gv L 3) ∧ mr205 S P 16 L (q_gv L 3 :: st) sh M c s) := (propext (mv_R_iff (i := .iload_n 3) (len := 1) (ax := []) (by decide +kernel))).trans (q_ldI_eq (K := fun st => mr205 S P 16 L st sh M c s))
theorem e205_16 {x : Int32} : mr205 S P 16 L (.int x :: st) sh M c s = (mr205 S P 17 L (.long x.toInt64 :: st) sh M c s) := propext (mv_R_iff (i := .i2l) (len := 1) (ax := []) (by decide +kernel))
theorem e205_17 : mr205 S P 17 L st sh M c s = (mr205 S P 18 L (.long (lN 0) :: st) sh M c s) := propext (mv_R_iff (i := .lconst 0) (len := 1) (ax := []) (by decide +kernel))
theorem e205_18 : mr205 S P 18 L st sh M c s = (mr205 S P 21 L (.long (lN 10) :: st) sh M c s) := propext (mv_R_iff (i := .ldc2_w 264) (len := 3) (ax := [1365, 10]) (by decide +kernel))
theorem e205_21 {v3 : Value} {v2 : Value} {v1 : Value} : mr205 S P 21 L (v3 :: v2 :: v1 :: st) sh M c s = (mv_ss st ≤ 8 ∧ c ≤ 0 ∧ s ≤ 0 ∧ True ∧ mv_kal S 144 [v1, v2, v3] sh M (mr205 S P) 24 L st c s) := (propext (mv_R_iff (i := .invokestatic 92) (len := 3) (ax := [3, 144, 3, 0, 0, 0, 0, 1007, 1008, 119, 1009]) (by decide +kernel))).trans (q_call3)
theorem e205_24 {x : Int32} : mr205 S P 24 L (.int x :: st) sh M c s = (if x = nI 0 then mr205 S P 38 L st sh M c s else mr205 S P 27 L st sh M c s) := (propext (mv_R_iff (i := .ifCond .eq 14) (len := 3) (ax := [38]) (by decide +kernel))).trans (q_br)
theorem e205_27 : mr205 S P 27 L st sh M c s = (q_isI (q_gv L 4) ∧ mr205 S P 29 L (q_gv L 4 :: st) sh M c s) := (propext (mv_R_iff (i := .iload 4) (len := 2) (ax := []) (by decide +kernel))).trans (q_ldI_eq (K := fun st => mr205 S P 29 L st sh M c s))
theorem e205_29 {x : Int32} : mr205 S P 29 L (.int x :: st) sh M c s = (mr205 S P 30 L (.long x.toInt64 :: st) sh M c s) := propext (mv_R_iff (i := .i2l) (len := 1) (ax := []) (by decide +kernel))
theorem e205_30 : mr205 S P 30 L st sh M c s = (mr205 S P 31 L (.long (lN 0) :: st) sh M c s) := propext (mv_R_iff (i := .lconst 0) (len := 1) (ax := []) (by decide +kernel))
theorem e205_31 : mr205 S P 31 L st sh M c s = (mr205 S P 32 L (.long (lN 1) :: st) sh M c s) := propext (mv_R_iff (i := .lconst 1) (len := 1) (ax := []) (by decide +kernel))
theorem e205_32 {v3 : Value} {v2 : Value} {v1 : Value} : mr205 S P 32 L (v3 :: v2 :: v1 :: st) sh M c s = (mv_ss st ≤ 8 ∧ c ≤ 0 ∧ s ≤ 0 ∧ True ∧ mv_kal S 144 [v1, v2, v3] sh M (mr205 S P) 35 L st c s) := (propext (mv_R_iff (i := .invokestatic 92) (len := 3) (ax := [3, 144, 3, 0, 0, 0, 0, 1007, 1008, 119, 1009]) (by decide +kernel))).trans (q_call3)
theorem e205_35 {x : Int32} : mr205 S P 35 L (.int x :: st) sh M c s = (if x = nI 0 then mr205 S P 38 L st sh M c s else mr205 S P 40 L st sh M c s) := (propext (mv_R_iff (i := .ifCond .ne 5) (len := 3) (ax := [40]) (by decide +kernel))).trans (q_br')
theorem e205_38 : mr205 S P 38 L st sh M c s = (mr205 S P 39 L (.int (Int32.ofInt (-1)) :: st) sh M c s) := propext (mv_R_iff (i := .iconst (-1)) (len := 1) (ax := []) (by decide +kernel))
theorem e205_39 {x : Int32} : mr205 S P 39 L [.int x] sh M c s = (mv_nr 0 x ∧ P (some (.int x)) sh M) := propext (mv_R_iff (i := .ireturn) (len := 1) (ax := [0]) (by decide +kernel))
theorem e205_40 : mr205 S P 40 L st sh M c s = (q_isA (q_gv L 0) ∧ mr205 S P 41 L (q_gv L 0 :: st) sh M c s) := (propext (mv_R_iff (i := .aload_n 0) (len := 1) (ax := []) (by decide +kernel))).trans (q_ldA_eq (K := fun st => mr205 S P 41 L st sh M c s))
theorem e205_41 : mr205 S P 41 L st sh M c s = (mr205 S P 42 L (.int (nI 0) :: st) sh M c s) := propext (mv_R_iff (i := .iconst 0) (len := 1) (ax := []) (by decide +kernel))
theorem e205_42 : mr205 S P 42 L st sh M c s = (mr205 S P 45 L (.int (nI 8789) :: st) sh M c s) := propext (mv_R_iff (i := .sipush 8789) (len := 3) (ax := []) (by decide +kernel))
theorem e205_45 {v3 : Value} {v2 : Value} {v1 : Value} : mr205 S P 45 L (v3 :: v2 :: v1 :: st) sh M c s = (mv_ss st ≤ 8 ∧ c ≤ 0 ∧ s ≤ 0 ∧ mv_isO sh (some v1) 5 ∧ mv_kal S 156 [v1, v2, v3] sh M (mr205 S P) 48 L st c s) := (propext (mv_R_iff (i := .invokevirtual 205) (len := 3) (ax := [0, 156, 3, 5, 0, 0, 0, 1215, 1217, 85, 119, 1218]) (by decide +kernel))).trans (q_call0)
theorem e205_48 : mr205 S P 48 L st sh M c s = (q_isA (q_gv L 0) ∧ mr205 S P 49 L (q_gv L 0 :: st) sh M c s) := (propext (mv_R_iff (i := .aload_n 0) (len := 1) (ax := []) (by decide +kernel))).trans (q_ldA_eq (K := fun st => mr205 S P 49 L st sh M c s))
theorem e205_49 : mr205 S P 49 L st sh M c s = (mr205 S P 52 L (.int (nI 8789) :: st) sh M c s) := propext (mv_R_iff (i := .sipush 8789) (len := 3) (ax := []) (by decide +kernel))
theorem e205_52 : mr205 S P 52 L st sh M c s = (q_isI (q_gv L 1) ∧ mr205 S P 53 L (q_gv L 1 :: st) sh M c s) := (propext (mv_R_iff (i := .iload_n 1) (len := 1) (ax := []) (by decide +kernel))).trans (q_ldI_eq (K := fun st => mr205 S P 53 L st sh M c s))
theorem e205_53 : mr205 S P 53 L st sh M c s = (q_isI (q_gv L 2) ∧ mr205 S P 54 L (q_gv L 2 :: st) sh M c s) := (propext (mv_R_iff (i := .iload_n 2) (len := 1) (ax := []) (by decide +kernel))).trans (q_ldI_eq (K := fun st => mr205 S P 54 L st sh M c s))
theorem e205_54 {v4 : Value} {v3 : Value} {v2 : Value} {v1 : Value} : mr205 S P 54 L (v4 :: v3 :: v2 :: v1 :: st) sh M c s = (mv_ss st ≤ 8 ∧ c ≤ 0 ∧ s ≤ 0 ∧ mv_isO sh (some v1) 5 ∧ mv_kal S 161 [v1, v2, v3, v4] sh M (mr205 S P) 57 L st c s) := (propext (mv_R_iff (i := .invokevirtual 186) (len := 3) (ax := [0, 161, 4, 5, 0, 0, 0, 1223, 1225, 87, 119, 1226]) (by decide +kernel))).trans (q_call0)
theorem e205_57 {x : Int32} : mr205 S P 57 L (.int x :: st) sh M c s = (mr205 S P 58 L st sh M c s) := propext (mv_R_iff (i := .pop) (len := 1) (ax := []) (by decide +kernel))
theorem e205_57r {x : Nat} : mr205 S P 57 L (.ref x :: st) sh M c s = (mr205 S P 58 L st sh M c s) := propext (mv_R_iff (i := .pop) (len := 1) (ax := []) (by decide +kernel))
theorem e205_58 : mr205 S P 58 L st sh M c s = (q_isA (q_gv L 0) ∧ mr205 S P 59 L (q_gv L 0 :: st) sh M c s) := (propext (mv_R_iff (i := .aload_n 0) (len := 1) (ax := []) (by decide +kernel))).trans (q_ldA_eq (K := fun st => mr205 S P 59 L st sh M c s))
theorem e205_59 : mr205 S P 59 L st sh M c s = (mr205 S P 62 L (.int (nI 8789) :: st) sh M c s) := propext (mv_R_iff (i := .sipush 8789) (len := 3) (ax := []) (by decide +kernel))
theorem e205_62 {v2 : Value} {v1 : Value} : mr205 S P 62 L (v2 :: v1 :: st) sh M c s = (mv_ss st ≤ 8 ∧ c ≤ 0 ∧ s ≤ 0 ∧ mv_isO sh (some v1) 5 ∧ mv_kal S 162 [v1, v2] sh M (mr205 S P) 65 L st c s) := (propext (mv_R_iff (i := .invokevirtual 190) (len := 3) (ax := [0, 162, 2, 5, 0, 0, 0, 1192, 1194, 82, 119, 1195]) (by decide +kernel))).trans (q_call0)
theorem e205_65 {x : Int32} : mr205 S P 65 L (.int x :: st) sh M c s = (q_hs L 5 ∧ mr205 S P 67 (L.set 5 (some (.int x))) st sh M c s) := (propext (mv_R_iff (i := .istore 5) (len := 2) (ax := []) (by decide +kernel))).trans (q_st_eq (K := fun L => mr205 S P 67 L st sh M c s))
theorem e205_67 : mr205 S P 67 L st sh M c s = (mr205 S P 68 L (.int (nI 0) :: st) sh M c s) := propext (mv_R_iff (i := .iconst 0) (len := 1) (ax := []) (by decide +kernel))
theorem e205_68 {x : Int32} : mr205 S P 68 L (.int x :: st) sh M c s = (q_hs L 6 ∧ mr205 S P 70 (L.set 6 (some (.int x))) st sh M c s) := (propext (mv_R_iff (i := .istore 6) (len := 2) (ax := []) (by decide +kernel))).trans (q_st_eq (K := fun L => mr205 S P 70 L st sh M c s))
theorem e205_70 : mr205 S P 70 L st sh M c s = (mr205 S P 71 L (.int (nI 0) :: st) sh M c s) := propext (mv_R_iff (i := .iconst 0) (len := 1) (ax := []) (by decide +kernel))
theorem e205_71 {x : Int32} : mr205 S P 71 L (.int x :: st) sh M c s = (q_hs L 7 ∧ mr205 S P 73 (L.set 7 (some (.int x))) st sh M c s) := (propext (mv_R_iff (i := .istore 7) (len := 2) (ax := []) (by decide +kernel))).trans (q_st_eq (K := fun L => mr205 S P 73 L st sh M c s))
theorem e205_73 : mr205 S P 73 L st sh M c s = (mr205 S P 74 L (.int (nI 0) :: st) sh M c s) := propext (mv_R_iff (i := .iconst 0) (len := 1) (ax := []) (by decide +kernel))
theorem e205_74 {x : Int32} : mr205 S P 74 L (.int x :: st) sh M c s = (q_hs L 8 ∧ mr205 S P 76 (L.set 8 (some (.int x))) st sh M c s) := (propext (mv_R_iff (i := .istore 8) (len := 2) (ax := []) (by decide +kernel))).trans (q_st_eq (K := fun L => mr205 S P 76 L st sh M c s))
theorem e205_76 : mr205 S P 76 L st sh M c s = (q_isI (q_gv L 8) ∧ mr205 S P 78 L (q_gv L 8 :: st) sh M c s) := (propext (mv_R_iff (i := .iload 8) (len := 2) (ax := []) (by decide +kernel))).trans (q_ldI_eq (K := fun st => mr205 S P 78 L st sh M c s))
theorem e205_78 : mr205 S P 78 L st sh M c s = (mr205 S P 80 L (.int (nI 64) :: st) sh M c s) := propext (mv_R_iff (i := .bipush 64) (len := 2) (ax := []) (by decide +kernel))
theorem e205_80 {y : Int32} {x : Int32} : mr205 S P 80 L (.int y :: .int x :: st) sh M c s = (if y ≤ x then mr205 S P 224 L st sh M c s else mr205 S P 83 L st sh M c s) := (propext (mv_R_iff (i := .if_icmp .ge 144) (len := 3) (ax := [224]) (by decide +kernel))).trans (q_br)
theorem e205_83 : mr205 S P 83 L st sh M c s = (q_isI (q_gv L 8) ∧ mr205 S P 85 L (q_gv L 8 :: st) sh M c s) := (propext (mv_R_iff (i := .iload 8) (len := 2) (ax := []) (by decide +kernel))).trans (q_ldI_eq (K := fun st => mr205 S P 85 L st sh M c s))
theorem e205_85 : mr205 S P 85 L st sh M c s = (q_isA (q_gv L 0) ∧ mr205 S P 86 L (q_gv L 0 :: st) sh M c s) := (propext (mv_R_iff (i := .aload_n 0) (len := 1) (ax := []) (by decide +kernel))).trans (q_ldA_eq (K := fun st => mr205 S P 86 L st sh M c s))
theorem e205_86 {a : Nat} : mr205 S P 86 L (.ref a :: st) sh M c s = (mv_kgf sh M a 5 8 (mr205 S P) 89 L st c s) := propext (mv_R_iff (i := .getfield 22) (len := 3) (ax := [1033, 0, 5, 8]) (by decide +kernel))
theorem e205_89 : mr205 S P 89 L st sh M c s = (q_isI (q_gv L 1) ∧ mr205 S P 90 L (q_gv L 1 :: st) sh M c s) := (propext (mv_R_iff (i := .iload_n 1) (len := 1) (ax := []) (by decide +kernel))).trans (q_ldI_eq (K := fun st => mr205 S P 90 L st sh M c s))
theorem e205_90 {i : Int32} {a : Nat} : mr205 S P 90 L (.int i :: .ref a :: st) sh M c s = (mv_kld sh M a i (mr205 S P) 91 L st c s) := propext (mv_R_iff (i := .iaload) (len := 1) (ax := []) (by decide +kernel))
theorem e205_91 : mr205 S P 91 L st sh M c s = (mr205 S P 92 L (.int (Int32.ofInt (-1)) :: st) sh M c s) := propext (mv_R_iff (i := .iconst (-1)) (len := 1) (ax := []) (by decide +kernel))
theorem e205_92 {y : Int32} {x : Int32} : mr205 S P 92 L (.int y :: .int x :: st) sh M c s = (mr205 S P 93 L (.int (x ^^^ y) :: st) sh M c s) := propext (mv_R_iff (i := .ixor) (len := 1) (ax := []) (by decide +kernel))
theorem e205_93 {y : Int32} {x : Int32} : mr205 S P 93 L (.int y :: .int x :: st) sh M c s = (mr205 S P 94 L (.int (x &&& y) :: st) sh M c s) := propext (mv_R_iff (i := .iand) (len := 1) (ax := []) (by decide +kernel))
theorem e205_94 {x : Int32} : mr205 S P 94 L (.int x :: st) sh M c s = (if x = nI 0 then mr205 S P 97 L st sh M c s else mr205 S P 101 L st sh M c s) := (propext (mv_R_iff (i := .ifCond .ne 7) (len := 3) (ax := [101]) (by decide +kernel))).trans (q_br')
theorem e205_97 : mr205 S P 97 L st sh M c s = (mr205 S P 98 L (.int (nI 1) :: st) sh M c s) := propext (mv_R_iff (i := .iconst 1) (len := 1) (ax := []) (by decide +kernel))
theorem e205_98 : mr205 S P 98 L st sh M c s = (mr205 S P 102 L st sh M c s) := propext (mv_R_iff (i := .goto 4) (len := 3) (ax := [102]) (by decide +kernel))
theorem e205_101 : mr205 S P 101 L st sh M c s = (mr205 S P 102 L (.int (nI 0) :: st) sh M c s) := propext (mv_R_iff (i := .iconst 0) (len := 1) (ax := []) (by decide +kernel))
theorem e205_102 {x : Int32} : mr205 S P 102 L (.int x :: st) sh M c s = (q_hs L 9 ∧ mr205 S P 104 (L.set 9 (some (.int x))) st sh M c s) := (propext (mv_R_iff (i := .istore 9) (len := 2) (ax := []) (by decide +kernel))).trans (q_st_eq (K := fun L => mr205 S P 104 L st sh M c s))
theorem e205_104 : mr205 S P 104 L st sh M c s = (q_isA (q_gv L 0) ∧ mr205 S P 105 L (q_gv L 0 :: st) sh M c s) := (propext (mv_R_iff (i := .aload_n 0) (len := 1) (ax := []) (by decide +kernel))).trans (q_ldA_eq (K := fun st => mr205 S P 105 L st sh M c s))
theorem e205_105 : mr205 S P 105 L st sh M c s = (mr205 S P 106 L (.int (nI 0) :: st) sh M c s) := propext (mv_R_iff (i := .iconst 0) (len := 1) (ax := []) (by decide +kernel))
theorem e205_106 : mr205 S P 106 L st sh M c s = (mr205 S P 109 L (.int (nI 8789) :: st) sh M c s) := propext (mv_R_iff (i := .sipush 8789) (len := 3) (ax := []) (by decide +kernel))
theorem e205_109 {v3 : Value} {v2 : Value} {v1 : Value} : mr205 S P 109 L (v3 :: v2 :: v1 :: st) sh M c s = (mv_ss st ≤ 8 ∧ c ≤ 0 ∧ s ≤ 0 ∧ mv_isO sh (some v1) 5 ∧ mv_kal S 156 [v1, v2, v3] sh M (mr205 S P) 112 L st c s) := (propext (mv_R_iff (i := .invokevirtual 205) (len := 3) (ax := [0, 156, 3, 5, 0, 0, 0, 1215, 1217, 85, 119, 1218]) (by decide +kernel))).trans (q_call0)
theorem e205_112 : mr205 S P 112 L st sh M c s = (mr205 S P 113 L (.int (nI 0) :: st) sh M c s) := propext (mv_R_iff (i := .iconst 0) (len := 1) (ax := []) (by decide +kernel))
theorem e205_113 {x : Int32} : mr205 S P 113 L (.int x :: st) sh M c s = (q_hs L 10 ∧ mr205 S P 115 (L.set 10 (some (.int x))) st sh M c s) := (propext (mv_R_iff (i := .istore 10) (len := 2) (ax := []) (by decide +kernel))).trans (q_st_eq (K := fun L => mr205 S P 115 L st sh M c s))
theorem e205_115 : mr205 S P 115 L st sh M c s = (q_isI (q_gv L 10) ∧ mr205 S P 117 L (q_gv L 10 :: st) sh M c s) := (propext (mv_R_iff (i := .iload 10) (len := 2) (ax := []) (by decide +kernel))).trans (q_ldI_eq (K := fun st => mr205 S P 117 L st sh M c s))
theorem e205_117 : mr205 S P 117 L st sh M c s = (q_isA (q_gv L 0) ∧ mr205 S P 118 L (q_gv L 0 :: st) sh M c s) := (propext (mv_R_iff (i := .aload_n 0) (len := 1) (ax := []) (by decide +kernel))).trans (q_ldA_eq (K := fun st => mr205 S P 118 L st sh M c s))
theorem e205_118 {a : Nat} : mr205 S P 118 L (.ref a :: st) sh M c s = (mv_kgf sh M a 5 3 (mr205 S P) 121 L st c s) := propext (mv_R_iff (i := .getfield 151) (len := 3) (ax := [1028, 0, 5, 3]) (by decide +kernel))
theorem e205_121 {y : Int32} {x : Int32} : mr205 S P 121 L (.int y :: .int x :: st) sh M c s = (if y ≤ x then mr205 S P 188 L st sh M c s else mr205 S P 124 L st sh M c s) := (propext (mv_R_iff (i := .if_icmp .ge 67) (len := 3) (ax := [188]) (by decide +kernel))).trans (q_br)
theorem e205_124 : mr205 S P 124 L st sh M c s = (q_isA (q_gv L 0) ∧ mr205 S P 125 L (q_gv L 0 :: st) sh M c s) := (propext (mv_R_iff (i := .aload_n 0) (len := 1) (ax := []) (by decide +kernel))).trans (q_ldA_eq (K := fun st => mr205 S P 125 L st sh M c s))
theorem e205_125 {a : Nat} : mr205 S P 125 L (.ref a :: st) sh M c s = (mv_kgf sh M a 5 8 (mr205 S P) 128 L st c s) := propext (mv_R_iff (i := .getfield 22) (len := 3) (ax := [1033, 0, 5, 8]) (by decide +kernel))
theorem e205_128 : mr205 S P 128 L st sh M c s = (q_isI (q_gv L 1) ∧ mr205 S P 129 L (q_gv L 1 :: st) sh M c s) := (propext (mv_R_iff (i := .iload_n 1) (len := 1) (ax := []) (by decide +kernel))).trans (q_ldI_eq (K := fun st => mr205 S P 129 L st sh M c s))
theorem e205_129 {i : Int32} {a : Nat} : mr205 S P 129 L (.int i :: .ref a :: st) sh M c s = (mv_kld sh M a i (mr205 S P) 130 L st c s) := propext (mv_R_iff (i := .iaload) (len := 1) (ax := []) (by decide +kernel))
theorem e205_130 : mr205 S P 130 L st sh M c s = (q_isI (q_gv L 10) ∧ mr205 S P 132 L (q_gv L 10 :: st) sh M c s) := (propext (mv_R_iff (i := .iload 10) (len := 2) (ax := []) (by decide +kernel))).trans (q_ldI_eq (K := fun st => mr205 S P 132 L st sh M c s))
theorem e205_132 {v2 : Value} {v1 : Value} : mr205 S P 132 L (v2 :: v1 :: st) sh M c s = (mv_ss st ≤ 8 ∧ c ≤ 0 ∧ s ≤ 0 ∧ True ∧ mv_kal S 148 [v1, v2] sh M (mr205 S P) 135 L st c s) := (propext (mv_R_iff (i := .invokestatic 124) (len := 3) (ax := [3, 148, 2, 0, 0, 0, 0, 1014, 1015, 119, 1016]) (by decide +kernel))).trans (q_call3)
theorem e205_135 {x : Int32} : mr205 S P 135 L (.int x :: st) sh M c s = (if x = nI 0 then mr205 S P 182 L st sh M c s else mr205 S P 138 L st sh M c s) := (propext (mv_R_iff (i := .ifCond .eq 47) (len := 3) (ax := [182]) (by decide +kernel))).trans (q_br)
theorem e205_138 : mr205 S P 138 L st sh M c s = (q_isI (q_gv L 9) ∧ mr205 S P 140 L (q_gv L 9 :: st) sh M c s) := (propext (mv_R_iff (i := .iload 9) (len := 2) (ax := []) (by decide +kernel))).trans (q_ldI_eq (K := fun st => mr205 S P 140 L st sh M c s))
theorem e205_140 : mr205 S P 140 L st sh M c s = (q_isI (q_gv L 8) ∧ mr205 S P 142 L (q_gv L 8 :: st) sh M c s) := (propext (mv_R_iff (i := .iload 8) (len := 2) (ax := []) (by decide +kernel))).trans (q_ldI_eq (K := fun st => mr205 S P 142 L st sh M c s))
theorem e205_142 : mr205 S P 142 L st sh M c s = (q_isI (q_gv L 10) ∧ mr205 S P 144 L (q_gv L 10 :: st) sh M c s) := (propext (mv_R_iff (i := .iload 10) (len := 2) (ax := []) (by decide +kernel))).trans (q_ldI_eq (K := fun st => mr205 S P 144 L st sh M c s))
theorem e205_144 {v2 : Value} {v1 : Value} : mr205 S P 144 L (v2 :: v1 :: st) sh M c s = (mv_ss st ≤ 8 ∧ c ≤ 0 ∧ s ≤ 0 ∧ True ∧ mv_kal S 148 [v1, v2] sh M (mr205 S P) 147 L st c s) := (propext (mv_R_iff (i := .invokestatic 124) (len := 3) (ax := [3, 148, 2, 0, 0, 0, 0, 1014, 1015, 119, 1016]) (by decide +kernel))).trans (q_call3)
theorem e205_147 {x : Int32} : mr205 S P 147 L (.int x :: st) sh M c s = (if x = nI 0 then mr205 S P 154 L st sh M c s else mr205 S P 150 L st sh M c s) := (propext (mv_R_iff (i := .ifCond .eq 7) (len := 3) (ax := [154]) (by decide +kernel))).trans (q_br)
theorem e205_150 : mr205 S P 150 L st sh M c s = (q_isI (q_gv L 3) ∧ mr205 S P 151 L (q_gv L 3 :: st) sh M c s) := (propext (mv_R_iff (i := .iload_n 3) (len := 1) (ax := []) (by decide +kernel))).trans (q_ldI_eq (K := fun st => mr205 S P 151 L st sh M c s))
theorem e205_151 : mr205 S P 151 L st sh M c s = (mr205 S P 158 L st sh M c s) := propext (mv_R_iff (i := .goto 7) (len := 3) (ax := [158]) (by decide +kernel))
theorem e205_154 : mr205 S P 154 L st sh M c s = (mr205 S P 156 L (.int (nI 10) :: st) sh M c s) := propext (mv_R_iff (i := .bipush 10) (len := 2) (ax := []) (by decide +kernel))
theorem e205_156 : mr205 S P 156 L st sh M c s = (q_isI (q_gv L 3) ∧ mr205 S P 157 L (q_gv L 3 :: st) sh M c s) := (propext (mv_R_iff (i := .iload_n 3) (len := 1) (ax := []) (by decide +kernel))).trans (q_ldI_eq (K := fun st => mr205 S P 157 L st sh M c s))
theorem e205_157 {y : Int32} {x : Int32} : mr205 S P 157 L (.int y :: .int x :: st) sh M c s = (mr205 S P 158 L (.int (x - y) :: st) sh M c s) := propext (mv_R_iff (i := .isub) (len := 1) (ax := []) (by decide +kernel))
theorem e205_158 {y : Int32} {x : Int32} : mr205 S P 158 L (.int y :: .int x :: st) sh M c s = (mr205 S P 159 L (.int (x * y) :: st) sh M c s) := propext (mv_R_iff (i := .imul) (len := 1) (ax := []) (by decide +kernel))
theorem e205_159 {x : Int32} : mr205 S P 159 L (.int x :: st) sh M c s = (q_hs L 9 ∧ mr205 S P 161 (L.set 9 (some (.int x))) st sh M c s) := (propext (mv_R_iff (i := .istore 9) (len := 2) (ax := []) (by decide +kernel))).trans (q_st_eq (K := fun L => mr205 S P 161 L st sh M c s))
theorem e205_161 : mr205 S P 161 L st sh M c s = (q_isI (q_gv L 8) ∧ mr205 S P 163 L (q_gv L 8 :: st) sh M c s) := (propext (mv_R_iff (i := .iload 8) (len := 2) (ax := []) (by decide +kernel))).trans (q_ldI_eq (K := fun st => mr205 S P 163 L st sh M c s))
theorem e205_163 : mr205 S P 163 L st sh M c s = (q_isI (q_gv L 10) ∧ mr205 S P 165 L (q_gv L 10 :: st) sh M c s) := (propext (mv_R_iff (i := .iload 10) (len := 2) (ax := []) (by decide +kernel))).trans (q_ldI_eq (K := fun st => mr205 S P 165 L st sh M c s))
theorem e205_165 {v2 : Value} {v1 : Value} : mr205 S P 165 L (v2 :: v1 :: st) sh M c s = (mv_ss st ≤ 8 ∧ c ≤ 0 ∧ s ≤ 0 ∧ True ∧ mv_kal S 148 [v1, v2] sh M (mr205 S P) 168 L st c s) := (propext (mv_R_iff (i := .invokestatic 124) (len := 3) (ax := [3, 148, 2, 0, 0, 0, 0, 1014, 1015, 119, 1016]) (by decide +kernel))).trans (q_call3)
theorem e205_168 {x : Int32} : mr205 S P 168 L (.int x :: st) sh M c s = (if x = nI 0 then mr205 S P 171 L st sh M c s else mr205 S P 182 L st sh M c s) := (propext (mv_R_iff (i := .ifCond .ne 14) (len := 3) (ax := [182]) (by decide +kernel))).trans (q_br')
theorem e205_171 : mr205 S P 171 L st sh M c s = (q_isA (q_gv L 0) ∧ mr205 S P 172 L (q_gv L 0 :: st) sh M c s) := (propext (mv_R_iff (i := .aload_n 0) (len := 1) (ax := []) (by decide +kernel))).trans (q_ldA_eq (K := fun st => mr205 S P 172 L st sh M c s))
theorem e205_172 : mr205 S P 172 L st sh M c s = (mr205 S P 175 L (.int (nI 8789) :: st) sh M c s) := propext (mv_R_iff (i := .sipush 8789) (len := 3) (ax := []) (by decide +kernel))
theorem e205_175 : mr205 S P 175 L st sh M c s = (q_isI (q_gv L 10) ∧ mr205 S P 177 L (q_gv L 10 :: st) sh M c s) := (propext (mv_R_iff (i := .iload 10) (len := 2) (ax := []) (by decide +kernel))).trans (q_ldI_eq (K := fun st => mr205 S P 177 L st sh M c s))
theorem e205_177 : mr205 S P 177 L st sh M c s = (q_isI (q_gv L 2) ∧ mr205 S P 178 L (q_gv L 2 :: st) sh M c s) := (propext (mv_R_iff (i := .iload_n 2) (len := 1) (ax := []) (by decide +kernel))).trans (q_ldI_eq (K := fun st => mr205 S P 178 L st sh M c s))
theorem e205_178 {v4 : Value} {v3 : Value} {v2 : Value} {v1 : Value} : mr205 S P 178 L (v4 :: v3 :: v2 :: v1 :: st) sh M c s = (mv_ss st ≤ 8 ∧ c ≤ 0 ∧ s ≤ 0 ∧ mv_isO sh (some v1) 5 ∧ mv_kal S 160 [v1, v2, v3, v4] sh M (mr205 S P) 181 L st c s) := (propext (mv_R_iff (i := .invokevirtual 183) (len := 3) (ax := [0, 160, 4, 5, 0, 0, 0, 1235, 1237, 90, 119, 1238]) (by decide +kernel))).trans (q_call0)
theorem e205_181 {x : Int32} : mr205 S P 181 L (.int x :: st) sh M c s = (mr205 S P 182 L st sh M c s) := propext (mv_R_iff (i := .pop) (len := 1) (ax := []) (by decide +kernel))
theorem e205_181r {x : Nat} : mr205 S P 181 L (.ref x :: st) sh M c s = (mr205 S P 182 L st sh M c s) := propext (mv_R_iff (i := .pop) (len := 1) (ax := []) (by decide +kernel))
theorem e205_182 : mr205 S P 182 L st sh M c s = ((q_isI (q_gv L 10) ∧ q_hs L 10) ∧ mr205 S P 185 (L.set 10 (some (q_inc (q_gv L 10) (nI 1)))) st sh M c s) := (propext (mv_R_iff (i := .iinc 10 1) (len := 3) (ax := []) (by decide +kernel))).trans (q_inc_eq (K := fun L => mr205 S P 185 L st sh M c s))
theorem e205_185 : mr205 S P 185 L st sh M c s = (mr205 S P 115 L st sh M c s) := propext (mv_R_iff (i := .goto (-70)) (len := 3) (ax := [115]) (by decide +kernel))
theorem e205_188 : mr205 S P 188 L st sh M c s = (q_isI (q_gv L 6) ∧ mr205 S P 190 L (q_gv L 6 :: st) sh M c s) := (propext (mv_R_iff (i := .iload 6) (len := 2) (ax := []) (by decide +kernel))).trans (q_ldI_eq (K := fun st => mr205 S P 190 L st sh M c s))
theorem e205_190 : mr205 S P 190 L st sh M c s = (q_isA (q_gv L 0) ∧ mr205 S P 191 L (q_gv L 0 :: st) sh M c s) := (propext (mv_R_iff (i := .aload_n 0) (len := 1) (ax := []) (by decide +kernel))).trans (q_ldA_eq (K := fun st => mr205 S P 191 L st sh M c s))
theorem e205_191 : mr205 S P 191 L st sh M c s = (mr205 S P 194 L (.int (nI 8789) :: st) sh M c s) := propext (mv_R_iff (i := .sipush 8789) (len := 3) (ax := []) (by decide +kernel))
theorem e205_194 {v2 : Value} {v1 : Value} : mr205 S P 194 L (v2 :: v1 :: st) sh M c s = (mv_ss st ≤ 8 ∧ c ≤ 0 ∧ s ≤ 0 ∧ mv_isO sh (some v1) 5 ∧ mv_kal S 162 [v1, v2] sh M (mr205 S P) 197 L st c s) := (propext (mv_R_iff (i := .invokevirtual 190) (len := 3) (ax := [0, 162, 2, 5, 0, 0, 0, 1192, 1194, 82, 119, 1195]) (by decide +kernel))).trans (q_call0)
theorem e205_197 : mr205 S P 197 L st sh M c s = (q_isI (q_gv L 5) ∧ mr205 S P 199 L (q_gv L 5 :: st) sh M c s) := (propext (mv_R_iff (i := .iload 5) (len := 2) (ax := []) (by decide +kernel))).trans (q_ldI_eq (K := fun st => mr205 S P 199 L st sh M c s))
theorem e205_199 {y : Int32} {x : Int32} : mr205 S P 199 L (.int y :: .int x :: st) sh M c s = (if x = y then mr205 S P 202 L st sh M c s else mr205 S P 207 L st sh M c s) := (propext (mv_R_iff (i := .if_icmp .ne 8) (len := 3) (ax := [207]) (by decide +kernel))).trans (q_br')
theorem e205_202 : mr205 S P 202 L st sh M c s = (q_isI (q_gv L 9) ∧ mr205 S P 204 L (q_gv L 9 :: st) sh M c s) := (propext (mv_R_iff (i := .iload 9) (len := 2) (ax := []) (by decide +kernel))).trans (q_ldI_eq (K := fun st => mr205 S P 204 L st sh M c s))
theorem e205_204 : mr205 S P 204 L st sh M c s = (mr205 S P 208 L st sh M c s) := propext (mv_R_iff (i := .goto 4) (len := 3) (ax := [208]) (by decide +kernel))
theorem e205_207 : mr205 S P 207 L st sh M c s = (mr205 S P 208 L (.int (nI 0) :: st) sh M c s) := propext (mv_R_iff (i := .iconst 0) (len := 1) (ax := []) (by decide +kernel))
theorem e205_208 {y : Int32} {x : Int32} : mr205 S P 208 L (.int y :: .int x :: st) sh M c s = (mr205 S P 209 L (.int (x + y) :: st) sh M c s) := propext (mv_R_iff (i := .iadd) (len := 1) (ax := []) (by decide +kernel))
theorem e205_209 {x : Int32} : mr205 S P 209 L (.int x :: st) sh M c s = (q_hs L 6 ∧ mr205 S P 211 (L.set 6 (some (.int x))) st sh M c s) := (propext (mv_R_iff (i := .istore 6) (len := 2) (ax := []) (by decide +kernel))).trans (q_st_eq (K := fun L => mr205 S P 211 L st sh M c s))
theorem e205_211 : mr205 S P 211 L st sh M c s = (q_isI (q_gv L 7) ∧ mr205 S P 213 L (q_gv L 7 :: st) sh M c s) := (propext (mv_R_iff (i := .iload 7) (len := 2) (ax := []) (by decide +kernel))).trans (q_ldI_eq (K := fun st => mr205 S P 213 L st sh M c s))
theorem e205_213 : mr205 S P 213 L st sh M c s = (q_isI (q_gv L 9) ∧ mr205 S P 215 L (q_gv L 9 :: st) sh M c s) := (propext (mv_R_iff (i := .iload 9) (len := 2) (ax := []) (by decide +kernel))).trans (q_ldI_eq (K := fun st => mr205 S P 215 L st sh M c s))
theorem e205_215 {y : Int32} {x : Int32} : mr205 S P 215 L (.int y :: .int x :: st) sh M c s = (mr205 S P 216 L (.int (x + y) :: st) sh M c s) := propext (mv_R_iff (i := .iadd) (len := 1) (ax := []) (by decide +kernel))
theorem e205_216 {x : Int32} : mr205 S P 216 L (.int x :: st) sh M c s = (q_hs L 7 ∧ mr205 S P 218 (L.set 7 (some (.int x))) st sh M c s) := (propext (mv_R_iff (i := .istore 7) (len := 2) (ax := []) (by decide +kernel))).trans (q_st_eq (K := fun L => mr205 S P 218 L st sh M c s))
theorem e205_218 : mr205 S P 218 L st sh M c s = ((q_isI (q_gv L 8) ∧ q_hs L 8) ∧ mr205 S P 221 (L.set 8 (some (q_inc (q_gv L 8) (nI 1)))) st sh M c s) := (propext (mv_R_iff (i := .iinc 8 1) (len := 3) (ax := []) (by decide +kernel))).trans (q_inc_eq (K := fun L => mr205 S P 221 L st sh M c s))
theorem e205_221 : mr205 S P 221 L st sh M c s = (mr205 S P 76 L st sh M c s) := propext (mv_R_iff (i := .goto (-145)) (len := 3) (ax := [76]) (by decide +kernel))
theorem e205_224 : mr205 S P 224 L st sh M c s = (q_isI (q_gv L 6) ∧ mr205 S P 226 L (q_gv L 6 :: st) sh M c s) := (propext (mv_R_iff (i := .iload 6) (len := 2) (ax := []) (by decide +kernel))).trans (q_ldI_eq (K := fun st => mr205 S P 226 L st sh M c s))
theorem e205_226 {x : Int32} : mr205 S P 226 L (.int x :: st) sh M c s = (q_hs L 8 ∧ mr205 S P 228 (L.set 8 (some (.int x))) st sh M c s) := (propext (mv_R_iff (i := .istore 8) (len := 2) (ax := []) (by decide +kernel))).trans (q_st_eq (K := fun L => mr205 S P 228 L st sh M c s))
theorem e205_228 : mr205 S P 228 L st sh M c s = (q_isI (q_gv L 7) ∧ mr205 S P 230 L (q_gv L 7 :: st) sh M c s) := (propext (mv_R_iff (i := .iload 7) (len := 2) (ax := []) (by decide +kernel))).trans (q_ldI_eq (K := fun st => mr205 S P 230 L st sh M c s))
theorem e205_230 {x : Int32} : mr205 S P 230 L (.int x :: st) sh M c s = (q_hs L 9 ∧ mr205 S P 232 (L.set 9 (some (.int x))) st sh M c s) := (propext (mv_R_iff (i := .istore 9) (len := 2) (ax := []) (by decide +kernel))).trans (q_st_eq (K := fun L => mr205 S P 232 L st sh M c s))
theorem e205_232 : mr205 S P 232 L st sh M c s = (q_isI (q_gv L 9) ∧ mr205 S P 234 L (q_gv L 9 :: st) sh M c s) := (propext (mv_R_iff (i := .iload 9) (len := 2) (ax := []) (by decide +kernel))).trans (q_ldI_eq (K := fun st => mr205 S P 234 L st sh M c s))
theorem e205_234 {x : Int32} : mr205 S P 234 L (.int x :: st) sh M c s = (if x = nI 0 then mr205 S P 255 L st sh M c s else mr205 S P 237 L st sh M c s) := (propext (mv_R_iff (i := .ifCond .eq 21) (len := 3) (ax := [255]) (by decide +kernel))).trans (q_br)
theorem e205_237 : mr205 S P 237 L st sh M c s = (q_isI (q_gv L 8) ∧ mr205 S P 239 L (q_gv L 8 :: st) sh M c s) := (propext (mv_R_iff (i := .iload 8) (len := 2) (ax := []) (by decide +kernel))).trans (q_ldI_eq (K := fun st => mr205 S P 239 L st sh M c s))
theorem e205_239 : mr205 S P 239 L st sh M c s = (q_isI (q_gv L 9) ∧ mr205 S P 241 L (q_gv L 9 :: st) sh M c s) := (propext (mv_R_iff (i := .iload 9) (len := 2) (ax := []) (by decide +kernel))).trans (q_ldI_eq (K := fun st => mr205 S P 241 L st sh M c s))
theorem e205_241 {y : Int32} {x : Int32} : mr205 S P 241 L (.int y :: .int x :: st) sh M c s = (¬ y = nI 0 ∧ mr205 S P 242 L (.int (q_rm x y) :: st) sh M c s) := propext (mv_R_iff (i := .irem) (len := 1) (ax := []) (by decide +kernel))
theorem e205_242 {x : Int32} : mr205 S P 242 L (.int x :: st) sh M c s = (q_hs L 10 ∧ mr205 S P 244 (L.set 10 (some (.int x))) st sh M c s) := (propext (mv_R_iff (i := .istore 10) (len := 2) (ax := []) (by decide +kernel))).trans (q_st_eq (K := fun L => mr205 S P 244 L st sh M c s))
theorem e205_244 : mr205 S P 244 L st sh M c s = (q_isI (q_gv L 9) ∧ mr205 S P 246 L (q_gv L 9 :: st) sh M c s) := (propext (mv_R_iff (i := .iload 9) (len := 2) (ax := []) (by decide +kernel))).trans (q_ldI_eq (K := fun st => mr205 S P 246 L st sh M c s))
theorem e205_246 {x : Int32} : mr205 S P 246 L (.int x :: st) sh M c s = (q_hs L 8 ∧ mr205 S P 248 (L.set 8 (some (.int x))) st sh M c s) := (propext (mv_R_iff (i := .istore 8) (len := 2) (ax := []) (by decide +kernel))).trans (q_st_eq (K := fun L => mr205 S P 248 L st sh M c s))
theorem e205_248 : mr205 S P 248 L st sh M c s = (q_isI (q_gv L 10) ∧ mr205 S P 250 L (q_gv L 10 :: st) sh M c s) := (propext (mv_R_iff (i := .iload 10) (len := 2) (ax := []) (by decide +kernel))).trans (q_ldI_eq (K := fun st => mr205 S P 250 L st sh M c s))
theorem e205_250 {x : Int32} : mr205 S P 250 L (.int x :: st) sh M c s = (q_hs L 9 ∧ mr205 S P 252 (L.set 9 (some (.int x))) st sh M c s) := (propext (mv_R_iff (i := .istore 9) (len := 2) (ax := []) (by decide +kernel))).trans (q_st_eq (K := fun L => mr205 S P 252 L st sh M c s))
theorem e205_252 : mr205 S P 252 L st sh M c s = (mr205 S P 232 L st sh M c s) := propext (mv_R_iff (i := .goto (-20)) (len := 3) (ax := [232]) (by decide +kernel))
theorem e205_255 : mr205 S P 255 L st sh M c s = (q_isI (q_gv L 4) ∧ mr205 S P 257 L (q_gv L 4 :: st) sh M c s) := (propext (mv_R_iff (i := .iload 4) (len := 2) (ax := []) (by decide +kernel))).trans (q_ldI_eq (K := fun st => mr205 S P 257 L st sh M c s))
theorem e205_257 {x : Int32} : mr205 S P 257 L (.int x :: st) sh M c s = (if x = nI 0 then mr205 S P 260 L st sh M c s else mr205 S P 268 L st sh M c s) := (propext (mv_R_iff (i := .ifCond .ne 11) (len := 3) (ax := [268]) (by decide +kernel))).trans (q_br')
theorem e205_260 : mr205 S P 260 L st sh M c s = (q_isI (q_gv L 6) ∧ mr205 S P 262 L (q_gv L 6 :: st) sh M c s) := (propext (mv_R_iff (i := .iload 6) (len := 2) (ax := []) (by decide +kernel))).trans (q_ldI_eq (K := fun st => mr205 S P 262 L st sh M c s))
theorem e205_262 : mr205 S P 262 L st sh M c s = (q_isI (q_gv L 8) ∧ mr205 S P 264 L (q_gv L 8 :: st) sh M c s) := (propext (mv_R_iff (i := .iload 8) (len := 2) (ax := []) (by decide +kernel))).trans (q_ldI_eq (K := fun st => mr205 S P 264 L st sh M c s))
theorem e205_264 {y : Int32} {x : Int32} : mr205 S P 264 L (.int y :: .int x :: st) sh M c s = (¬ y = nI 0 ∧ mr205 S P 265 L (.int (x / y) :: st) sh M c s) := propext (mv_R_iff (i := .idiv) (len := 1) (ax := []) (by decide +kernel))
theorem e205_265 : mr205 S P 265 L st sh M c s = (mr205 S P 273 L st sh M c s) := propext (mv_R_iff (i := .goto 8) (len := 3) (ax := [273]) (by decide +kernel))
theorem e205_268 : mr205 S P 268 L st sh M c s = (q_isI (q_gv L 7) ∧ mr205 S P 270 L (q_gv L 7 :: st) sh M c s) := (propext (mv_R_iff (i := .iload 7) (len := 2) (ax := []) (by decide +kernel))).trans (q_ldI_eq (K := fun st => mr205 S P 270 L st sh M c s))
theorem e205_270 : mr205 S P 270 L st sh M c s = (q_isI (q_gv L 8) ∧ mr205 S P 272 L (q_gv L 8 :: st) sh M c s) := (propext (mv_R_iff (i := .iload 8) (len := 2) (ax := []) (by decide +kernel))).trans (q_ldI_eq (K := fun st => mr205 S P 272 L st sh M c s))
theorem e205_272 {y : Int32} {x : Int32} : mr205 S P 272 L (.int y :: .int x :: st) sh M c s = (¬ y = nI 0 ∧ mr205 S P 273 L (.int (x / y) :: st) sh M c s) := propext (mv_R_iff (i := .idiv) (len := 1) (ax := []) (by decide +kernel))
theorem e205_273 {x : Int32} : mr205 S P 273 L [.int x] sh M c s = (mv_nr 0 x ∧ P (some (.int x)) sh M) := propext (mv_R_iff (i := .ireturn) (len := 1) (ax := [0]) (by decide +kernel))
-- 206: TurnedTabletsModel.tablet(II)I
def mk206 : mv_Cd := [
  (0, .aload_n 0, 1, []),
  (1, .iload_n 1, 1, []),
  (2, .invokevirtual 197, 3, [0, 181, 2, 5, 0, 0, 0, 1163, 1165, 79, 119, 1166]),
  (5, .ifCond .ne 5, 3, [10]),
  (8, .iconst (-1), 1, []),
  (9, .ireturn, 1, [0]),
  (10, .iload_n 2, 1, []),
  (11, .tableswitch 116 0 6 #[41, 48, 57, 67, 86, 99, 109], 41, [127, 52, 59, 68, 78, 97, 110, 120]),
  (52, .aload_n 0, 1, []),
  (53, .getfield 13, 3, [1029, 0, 5, 4]),
  (56, .iload_n 1, 1, []),
  (57, .iaload, 1, []),
  (58, .ireturn, 1, [0]),
  (59, .aload_n 0, 1, []),
  (60, .getfield 7, 3, [1025, 0, 5, 0]),
  (63, .iconst 0, 1, []),
  (64, .iload_n 1, 1, []),
  (65, .iadd, 1, []),
  (66, .iaload, 1, []),
  (67, .ireturn, 1, [0]),
  (68, .aload_n 0, 1, []),
  (69, .getfield 7, 3, [1025, 0, 5, 0]),
  (72, .bipush 6, 2, []),
  (74, .iload_n 1, 1, []),
  (75, .iadd, 1, []),
  (76, .iaload, 1, []),
  (77, .ireturn, 1, [0]),
  (78, .aload_n 0, 1, []),
  (79, .getfield 16, 3, [1030, 0, 5, 5]),
  (82, .iconst 4, 1, []),
  (83, .iload_n 1, 1, []),
  (84, .imul, 1, []),
  (85, .aload_n 0, 1, []),
  (86, .getfield 7, 3, [1025, 0, 5, 0]),
  (89, .bipush 6, 2, []),
  (91, .iload_n 1, 1, []),
  (92, .iadd, 1, []),
  (93, .iaload, 1, []),
  (94, .iadd, 1, []),
  (95, .iaload, 1, []),
  (96, .ireturn, 1, [0]),
  (97, .aload_n 0, 1, []),
  (98, .getfield 7, 3, [1025, 0, 5, 0]),
  (101, .bipush 12, 2, []),
  (103, .iload_n 1, 1, []),
  (104, .iadd, 1, []),
  (105, .iaload, 1, []),
  (106, .bipush 40, 2, []),
  (108, .iadd, 1, []),
  (109, .ireturn, 1, [0]),
  (110, .aload_n 0, 1, []),
  (111, .getfield 7, 3, [1025, 0, 5, 0]),
  (114, .bipush 18, 2, []),
  (116, .iload_n 1, 1, []),
  (117, .iadd, 1, []),
  (118, .iaload, 1, []),
  (119, .ireturn, 1, [0]),
  (120, .aload_n 0, 1, []),
  (121, .iconst 0, 1, []),
  (122, .iload_n 1, 1, []),
  (123, .invokevirtual 180, 3, [0, 163, 3, 5, 0, 0, 0, 1167, 1169, 80, 119, 1170]),
  (126, .ireturn, 1, [0]),
  (127, .iconst (-1), 1, []),
  (128, .ireturn, 1, [0])]
def mr206 (S : Nat → mv_Sp) (P : mv_Post) : mv_Kt := mv_R mv_DF mk206 S (0, 0) P
theorem e206_0 : mr206 S P 0 L st sh M c s = (q_isA (q_gv L 0) ∧ mr206 S P 1 L (q_gv L 0 :: st) sh M c s) := (propext (mv_R_iff (i := .aload_n 0) (len := 1) (ax := []) (by decide +kernel))).trans (q_ldA_eq (K := fun st => mr206 S P 1 L st sh M c s))
theorem e206_1 : mr206 S P 1 L st sh M c s = (q_isI (q_gv L 1) ∧ mr206 S P 2 L (q_gv L 1 :: st) sh M c s) := (propext (mv_R_iff (i := .iload_n 1) (len := 1) (ax := []) (by decide +kernel))).trans (q_ldI_eq (K := fun st => mr206 S P 2 L st sh M c s))
theorem e206_2 {v2 : Value} {v1 : Value} : mr206 S P 2 L (v2 :: v1 :: st) sh M c s = (mv_ss st ≤ 8 ∧ c ≤ 0 ∧ s ≤ 0 ∧ mv_isO sh (some v1) 5 ∧ mv_kal S 181 [v1, v2] sh M (mr206 S P) 5 L st c s) := (propext (mv_R_iff (i := .invokevirtual 197) (len := 3) (ax := [0, 181, 2, 5, 0, 0, 0, 1163, 1165, 79, 119, 1166]) (by decide +kernel))).trans (q_call0)
theorem e206_5 {x : Int32} : mr206 S P 5 L (.int x :: st) sh M c s = (if x = nI 0 then mr206 S P 8 L st sh M c s else mr206 S P 10 L st sh M c s) := (propext (mv_R_iff (i := .ifCond .ne 5) (len := 3) (ax := [10]) (by decide +kernel))).trans (q_br')
theorem e206_8 : mr206 S P 8 L st sh M c s = (mr206 S P 9 L (.int (Int32.ofInt (-1)) :: st) sh M c s) := propext (mv_R_iff (i := .iconst (-1)) (len := 1) (ax := []) (by decide +kernel))
theorem e206_9 {x : Int32} : mr206 S P 9 L [.int x] sh M c s = (mv_nr 0 x ∧ P (some (.int x)) sh M) := propext (mv_R_iff (i := .ireturn) (len := 1) (ax := [0]) (by decide +kernel))
theorem e206_10 : mr206 S P 10 L st sh M c s = (q_isI (q_gv L 2) ∧ mr206 S P 11 L (q_gv L 2 :: st) sh M c s) := (propext (mv_R_iff (i := .iload_n 2) (len := 1) (ax := []) (by decide +kernel))).trans (q_ldI_eq (K := fun st => mr206 S P 11 L st sh M c s))
theorem e206_11 {x : Int32} : mr206 S P 11 L (.int x :: st) sh M c s = (if x = (nI 0) then mr206 S P 52 L st sh M c s else if x = (nI 1) then mr206 S P 59 L st sh M c s else if x = (nI 2) then mr206 S P 68 L st sh M c s else if x = (nI 3) then mr206 S P 78 L st sh M c s else if x = (nI 4) then mr206 S P 97 L st sh M c s else if x = (nI 5) then mr206 S P 110 L st sh M c s else if x = (nI 6) then mr206 S P 120 L st sh M c s else mr206 S P 127 L st sh M c s) := (propext (mv_R_iff (i := .tableswitch 116 0 6 #[41, 48, 57, 67, 86, 99, 109]) (len := 41) (ax := [127, 52, 59, 68, 78, 97, 110, 120]) (by decide +kernel))).trans (q_sw7)
theorem e206_52 : mr206 S P 52 L st sh M c s = (q_isA (q_gv L 0) ∧ mr206 S P 53 L (q_gv L 0 :: st) sh M c s) := (propext (mv_R_iff (i := .aload_n 0) (len := 1) (ax := []) (by decide +kernel))).trans (q_ldA_eq (K := fun st => mr206 S P 53 L st sh M c s))
theorem e206_53 {a : Nat} : mr206 S P 53 L (.ref a :: st) sh M c s = (mv_kgf sh M a 5 4 (mr206 S P) 56 L st c s) := propext (mv_R_iff (i := .getfield 13) (len := 3) (ax := [1029, 0, 5, 4]) (by decide +kernel))
theorem e206_56 : mr206 S P 56 L st sh M c s = (q_isI (q_gv L 1) ∧ mr206 S P 57 L (q_gv L 1 :: st) sh M c s) := (propext (mv_R_iff (i := .iload_n 1) (len := 1) (ax := []) (by decide +kernel))).trans (q_ldI_eq (K := fun st => mr206 S P 57 L st sh M c s))
theorem e206_57 {i : Int32} {a : Nat} : mr206 S P 57 L (.int i :: .ref a :: st) sh M c s = (mv_kld sh M a i (mr206 S P) 58 L st c s) := propext (mv_R_iff (i := .iaload) (len := 1) (ax := []) (by decide +kernel))
theorem e206_58 {x : Int32} : mr206 S P 58 L [.int x] sh M c s = (mv_nr 0 x ∧ P (some (.int x)) sh M) := propext (mv_R_iff (i := .ireturn) (len := 1) (ax := [0]) (by decide +kernel))
theorem e206_59 : mr206 S P 59 L st sh M c s = (q_isA (q_gv L 0) ∧ mr206 S P 60 L (q_gv L 0 :: st) sh M c s) := (propext (mv_R_iff (i := .aload_n 0) (len := 1) (ax := []) (by decide +kernel))).trans (q_ldA_eq (K := fun st => mr206 S P 60 L st sh M c s))
theorem e206_60 {a : Nat} : mr206 S P 60 L (.ref a :: st) sh M c s = (mv_kgf sh M a 5 0 (mr206 S P) 63 L st c s) := propext (mv_R_iff (i := .getfield 7) (len := 3) (ax := [1025, 0, 5, 0]) (by decide +kernel))
theorem e206_63 : mr206 S P 63 L st sh M c s = (mr206 S P 64 L (.int (nI 0) :: st) sh M c s) := propext (mv_R_iff (i := .iconst 0) (len := 1) (ax := []) (by decide +kernel))
theorem e206_64 : mr206 S P 64 L st sh M c s = (q_isI (q_gv L 1) ∧ mr206 S P 65 L (q_gv L 1 :: st) sh M c s) := (propext (mv_R_iff (i := .iload_n 1) (len := 1) (ax := []) (by decide +kernel))).trans (q_ldI_eq (K := fun st => mr206 S P 65 L st sh M c s))
theorem e206_65 {y : Int32} {x : Int32} : mr206 S P 65 L (.int y :: .int x :: st) sh M c s = (mr206 S P 66 L (.int (x + y) :: st) sh M c s) := propext (mv_R_iff (i := .iadd) (len := 1) (ax := []) (by decide +kernel))
theorem e206_66 {i : Int32} {a : Nat} : mr206 S P 66 L (.int i :: .ref a :: st) sh M c s = (mv_kld sh M a i (mr206 S P) 67 L st c s) := propext (mv_R_iff (i := .iaload) (len := 1) (ax := []) (by decide +kernel))
theorem e206_67 {x : Int32} : mr206 S P 67 L [.int x] sh M c s = (mv_nr 0 x ∧ P (some (.int x)) sh M) := propext (mv_R_iff (i := .ireturn) (len := 1) (ax := [0]) (by decide +kernel))
theorem e206_68 : mr206 S P 68 L st sh M c s = (q_isA (q_gv L 0) ∧ mr206 S P 69 L (q_gv L 0 :: st) sh M c s) := (propext (mv_R_iff (i := .aload_n 0) (len := 1) (ax := []) (by decide +kernel))).trans (q_ldA_eq (K := fun st => mr206 S P 69 L st sh M c s))
theorem e206_69 {a : Nat} : mr206 S P 69 L (.ref a :: st) sh M c s = (mv_kgf sh M a 5 0 (mr206 S P) 72 L st c s) := propext (mv_R_iff (i := .getfield 7) (len := 3) (ax := [1025, 0, 5, 0]) (by decide +kernel))
theorem e206_72 : mr206 S P 72 L st sh M c s = (mr206 S P 74 L (.int (nI 6) :: st) sh M c s) := propext (mv_R_iff (i := .bipush 6) (len := 2) (ax := []) (by decide +kernel))
theorem e206_74 : mr206 S P 74 L st sh M c s = (q_isI (q_gv L 1) ∧ mr206 S P 75 L (q_gv L 1 :: st) sh M c s) := (propext (mv_R_iff (i := .iload_n 1) (len := 1) (ax := []) (by decide +kernel))).trans (q_ldI_eq (K := fun st => mr206 S P 75 L st sh M c s))
theorem e206_75 {y : Int32} {x : Int32} : mr206 S P 75 L (.int y :: .int x :: st) sh M c s = (mr206 S P 76 L (.int (x + y) :: st) sh M c s) := propext (mv_R_iff (i := .iadd) (len := 1) (ax := []) (by decide +kernel))
theorem e206_76 {i : Int32} {a : Nat} : mr206 S P 76 L (.int i :: .ref a :: st) sh M c s = (mv_kld sh M a i (mr206 S P) 77 L st c s) := propext (mv_R_iff (i := .iaload) (len := 1) (ax := []) (by decide +kernel))
theorem e206_77 {x : Int32} : mr206 S P 77 L [.int x] sh M c s = (mv_nr 0 x ∧ P (some (.int x)) sh M) := propext (mv_R_iff (i := .ireturn) (len := 1) (ax := [0]) (by decide +kernel))
theorem e206_78 : mr206 S P 78 L st sh M c s = (q_isA (q_gv L 0) ∧ mr206 S P 79 L (q_gv L 0 :: st) sh M c s) := (propext (mv_R_iff (i := .aload_n 0) (len := 1) (ax := []) (by decide +kernel))).trans (q_ldA_eq (K := fun st => mr206 S P 79 L st sh M c s))
theorem e206_79 {a : Nat} : mr206 S P 79 L (.ref a :: st) sh M c s = (mv_kgf sh M a 5 5 (mr206 S P) 82 L st c s) := propext (mv_R_iff (i := .getfield 16) (len := 3) (ax := [1030, 0, 5, 5]) (by decide +kernel))
theorem e206_82 : mr206 S P 82 L st sh M c s = (mr206 S P 83 L (.int (nI 4) :: st) sh M c s) := propext (mv_R_iff (i := .iconst 4) (len := 1) (ax := []) (by decide +kernel))
theorem e206_83 : mr206 S P 83 L st sh M c s = (q_isI (q_gv L 1) ∧ mr206 S P 84 L (q_gv L 1 :: st) sh M c s) := (propext (mv_R_iff (i := .iload_n 1) (len := 1) (ax := []) (by decide +kernel))).trans (q_ldI_eq (K := fun st => mr206 S P 84 L st sh M c s))
theorem e206_84 {y : Int32} {x : Int32} : mr206 S P 84 L (.int y :: .int x :: st) sh M c s = (mr206 S P 85 L (.int (x * y) :: st) sh M c s) := propext (mv_R_iff (i := .imul) (len := 1) (ax := []) (by decide +kernel))
theorem e206_85 : mr206 S P 85 L st sh M c s = (q_isA (q_gv L 0) ∧ mr206 S P 86 L (q_gv L 0 :: st) sh M c s) := (propext (mv_R_iff (i := .aload_n 0) (len := 1) (ax := []) (by decide +kernel))).trans (q_ldA_eq (K := fun st => mr206 S P 86 L st sh M c s))
theorem e206_86 {a : Nat} : mr206 S P 86 L (.ref a :: st) sh M c s = (mv_kgf sh M a 5 0 (mr206 S P) 89 L st c s) := propext (mv_R_iff (i := .getfield 7) (len := 3) (ax := [1025, 0, 5, 0]) (by decide +kernel))
theorem e206_89 : mr206 S P 89 L st sh M c s = (mr206 S P 91 L (.int (nI 6) :: st) sh M c s) := propext (mv_R_iff (i := .bipush 6) (len := 2) (ax := []) (by decide +kernel))
theorem e206_91 : mr206 S P 91 L st sh M c s = (q_isI (q_gv L 1) ∧ mr206 S P 92 L (q_gv L 1 :: st) sh M c s) := (propext (mv_R_iff (i := .iload_n 1) (len := 1) (ax := []) (by decide +kernel))).trans (q_ldI_eq (K := fun st => mr206 S P 92 L st sh M c s))
theorem e206_92 {y : Int32} {x : Int32} : mr206 S P 92 L (.int y :: .int x :: st) sh M c s = (mr206 S P 93 L (.int (x + y) :: st) sh M c s) := propext (mv_R_iff (i := .iadd) (len := 1) (ax := []) (by decide +kernel))
theorem e206_93 {i : Int32} {a : Nat} : mr206 S P 93 L (.int i :: .ref a :: st) sh M c s = (mv_kld sh M a i (mr206 S P) 94 L st c s) := propext (mv_R_iff (i := .iaload) (len := 1) (ax := []) (by decide +kernel))
theorem e206_94 {y : Int32} {x : Int32} : mr206 S P 94 L (.int y :: .int x :: st) sh M c s = (mr206 S P 95 L (.int (x + y) :: st) sh M c s) := propext (mv_R_iff (i := .iadd) (len := 1) (ax := []) (by decide +kernel))
theorem e206_95 {i : Int32} {a : Nat} : mr206 S P 95 L (.int i :: .ref a :: st) sh M c s = (mv_kld sh M a i (mr206 S P) 96 L st c s) := propext (mv_R_iff (i := .iaload) (len := 1) (ax := []) (by decide +kernel))
theorem e206_96 {x : Int32} : mr206 S P 96 L [.int x] sh M c s = (mv_nr 0 x ∧ P (some (.int x)) sh M) := propext (mv_R_iff (i := .ireturn) (len := 1) (ax := [0]) (by decide +kernel))
theorem e206_97 : mr206 S P 97 L st sh M c s = (q_isA (q_gv L 0) ∧ mr206 S P 98 L (q_gv L 0 :: st) sh M c s) := (propext (mv_R_iff (i := .aload_n 0) (len := 1) (ax := []) (by decide +kernel))).trans (q_ldA_eq (K := fun st => mr206 S P 98 L st sh M c s))
theorem e206_98 {a : Nat} : mr206 S P 98 L (.ref a :: st) sh M c s = (mv_kgf sh M a 5 0 (mr206 S P) 101 L st c s) := propext (mv_R_iff (i := .getfield 7) (len := 3) (ax := [1025, 0, 5, 0]) (by decide +kernel))
theorem e206_101 : mr206 S P 101 L st sh M c s = (mr206 S P 103 L (.int (nI 12) :: st) sh M c s) := propext (mv_R_iff (i := .bipush 12) (len := 2) (ax := []) (by decide +kernel))
theorem e206_103 : mr206 S P 103 L st sh M c s = (q_isI (q_gv L 1) ∧ mr206 S P 104 L (q_gv L 1 :: st) sh M c s) := (propext (mv_R_iff (i := .iload_n 1) (len := 1) (ax := []) (by decide +kernel))).trans (q_ldI_eq (K := fun st => mr206 S P 104 L st sh M c s))
theorem e206_104 {y : Int32} {x : Int32} : mr206 S P 104 L (.int y :: .int x :: st) sh M c s = (mr206 S P 105 L (.int (x + y) :: st) sh M c s) := propext (mv_R_iff (i := .iadd) (len := 1) (ax := []) (by decide +kernel))
theorem e206_105 {i : Int32} {a : Nat} : mr206 S P 105 L (.int i :: .ref a :: st) sh M c s = (mv_kld sh M a i (mr206 S P) 106 L st c s) := propext (mv_R_iff (i := .iaload) (len := 1) (ax := []) (by decide +kernel))
theorem e206_106 : mr206 S P 106 L st sh M c s = (mr206 S P 108 L (.int (nI 40) :: st) sh M c s) := propext (mv_R_iff (i := .bipush 40) (len := 2) (ax := []) (by decide +kernel))
theorem e206_108 {y : Int32} {x : Int32} : mr206 S P 108 L (.int y :: .int x :: st) sh M c s = (mr206 S P 109 L (.int (x + y) :: st) sh M c s) := propext (mv_R_iff (i := .iadd) (len := 1) (ax := []) (by decide +kernel))
theorem e206_109 {x : Int32} : mr206 S P 109 L [.int x] sh M c s = (mv_nr 0 x ∧ P (some (.int x)) sh M) := propext (mv_R_iff (i := .ireturn) (len := 1) (ax := [0]) (by decide +kernel))
theorem e206_110 : mr206 S P 110 L st sh M c s = (q_isA (q_gv L 0) ∧ mr206 S P 111 L (q_gv L 0 :: st) sh M c s) := (propext (mv_R_iff (i := .aload_n 0) (len := 1) (ax := []) (by decide +kernel))).trans (q_ldA_eq (K := fun st => mr206 S P 111 L st sh M c s))
theorem e206_111 {a : Nat} : mr206 S P 111 L (.ref a :: st) sh M c s = (mv_kgf sh M a 5 0 (mr206 S P) 114 L st c s) := propext (mv_R_iff (i := .getfield 7) (len := 3) (ax := [1025, 0, 5, 0]) (by decide +kernel))
theorem e206_114 : mr206 S P 114 L st sh M c s = (mr206 S P 116 L (.int (nI 18) :: st) sh M c s) := propext (mv_R_iff (i := .bipush 18) (len := 2) (ax := []) (by decide +kernel))
theorem e206_116 : mr206 S P 116 L st sh M c s = (q_isI (q_gv L 1) ∧ mr206 S P 117 L (q_gv L 1 :: st) sh M c s) := (propext (mv_R_iff (i := .iload_n 1) (len := 1) (ax := []) (by decide +kernel))).trans (q_ldI_eq (K := fun st => mr206 S P 117 L st sh M c s))
theorem e206_117 {y : Int32} {x : Int32} : mr206 S P 117 L (.int y :: .int x :: st) sh M c s = (mr206 S P 118 L (.int (x + y) :: st) sh M c s) := propext (mv_R_iff (i := .iadd) (len := 1) (ax := []) (by decide +kernel))
theorem e206_118 {i : Int32} {a : Nat} : mr206 S P 118 L (.int i :: .ref a :: st) sh M c s = (mv_kld sh M a i (mr206 S P) 119 L st c s) := propext (mv_R_iff (i := .iaload) (len := 1) (ax := []) (by decide +kernel))
theorem e206_119 {x : Int32} : mr206 S P 119 L [.int x] sh M c s = (mv_nr 0 x ∧ P (some (.int x)) sh M) := propext (mv_R_iff (i := .ireturn) (len := 1) (ax := [0]) (by decide +kernel))
theorem e206_120 : mr206 S P 120 L st sh M c s = (q_isA (q_gv L 0) ∧ mr206 S P 121 L (q_gv L 0 :: st) sh M c s) := (propext (mv_R_iff (i := .aload_n 0) (len := 1) (ax := []) (by decide +kernel))).trans (q_ldA_eq (K := fun st => mr206 S P 121 L st sh M c s))
theorem e206_121 : mr206 S P 121 L st sh M c s = (mr206 S P 122 L (.int (nI 0) :: st) sh M c s) := propext (mv_R_iff (i := .iconst 0) (len := 1) (ax := []) (by decide +kernel))
theorem e206_122 : mr206 S P 122 L st sh M c s = (q_isI (q_gv L 1) ∧ mr206 S P 123 L (q_gv L 1 :: st) sh M c s) := (propext (mv_R_iff (i := .iload_n 1) (len := 1) (ax := []) (by decide +kernel))).trans (q_ldI_eq (K := fun st => mr206 S P 123 L st sh M c s))
theorem e206_123 {v3 : Value} {v2 : Value} {v1 : Value} : mr206 S P 123 L (v3 :: v2 :: v1 :: st) sh M c s = (mv_ss st ≤ 8 ∧ c ≤ 0 ∧ s ≤ 0 ∧ mv_isO sh (some v1) 5 ∧ mv_kal S 163 [v1, v2, v3] sh M (mr206 S P) 126 L st c s) := (propext (mv_R_iff (i := .invokevirtual 180) (len := 3) (ax := [0, 163, 3, 5, 0, 0, 0, 1167, 1169, 80, 119, 1170]) (by decide +kernel))).trans (q_call0)
theorem e206_126 {x : Int32} : mr206 S P 126 L [.int x] sh M c s = (mv_nr 0 x ∧ P (some (.int x)) sh M) := propext (mv_R_iff (i := .ireturn) (len := 1) (ax := [0]) (by decide +kernel))
theorem e206_127 : mr206 S P 127 L st sh M c s = (mr206 S P 128 L (.int (Int32.ofInt (-1)) :: st) sh M c s) := propext (mv_R_iff (i := .iconst (-1)) (len := 1) (ax := []) (by decide +kernel))
theorem e206_128 {x : Int32} : mr206 S P 128 L [.int x] sh M c s = (mv_nr 0 x ∧ P (some (.int x)) sh M) := propext (mv_R_iff (i := .ireturn) (len := 1) (ax := [0]) (by decide +kernel))
-- 207: TurnedTabletsModel.top(I)I
def mk207 : mv_Cd := [
  (0, .iload_n 1, 1, []),
  (1, .ifCond .ne 11, 3, [12]),
  (4, .aload_n 0, 1, []),
  (5, .iconst 0, 1, []),
  (6, .invokevirtual 190, 3, [0, 162, 2, 5, 0, 0, 0, 1192, 1194, 82, 119, 1195]),
  (9, .goto 17, 3, [26]),
  (12, .iload_n 1, 1, []),
  (13, .iconst 1, 1, []),
  (14, .if_icmp .ne 11, 3, [25]),
  (17, .aload_n 0, 1, []),
  (18, .iconst 0, 1, []),
  (19, .invokevirtual 194, 3, [0, 164, 2, 5, 0, 0, 0, 1196, 1198, 83, 119, 1199]),
  (22, .goto 4, 3, [26]),
  (25, .iconst (-1), 1, []),
  (26, .ireturn, 1, [0])]
def mr207 (S : Nat → mv_Sp) (P : mv_Post) : mv_Kt := mv_R mv_DF mk207 S (0, 0) P
theorem e207_0 : mr207 S P 0 L st sh M c s = (q_isI (q_gv L 1) ∧ mr207 S P 1 L (q_gv L 1 :: st) sh M c s) := (propext (mv_R_iff (i := .iload_n 1) (len := 1) (ax := []) (by decide +kernel))).trans (q_ldI_eq (K := fun st => mr207 S P 1 L st sh M c s))
theorem e207_1 {x : Int32} : mr207 S P 1 L (.int x :: st) sh M c s = (if x = nI 0 then mr207 S P 4 L st sh M c s else mr207 S P 12 L st sh M c s) := (propext (mv_R_iff (i := .ifCond .ne 11) (len := 3) (ax := [12]) (by decide +kernel))).trans (q_br')
theorem e207_4 : mr207 S P 4 L st sh M c s = (q_isA (q_gv L 0) ∧ mr207 S P 5 L (q_gv L 0 :: st) sh M c s) := (propext (mv_R_iff (i := .aload_n 0) (len := 1) (ax := []) (by decide +kernel))).trans (q_ldA_eq (K := fun st => mr207 S P 5 L st sh M c s))
theorem e207_5 : mr207 S P 5 L st sh M c s = (mr207 S P 6 L (.int (nI 0) :: st) sh M c s) := propext (mv_R_iff (i := .iconst 0) (len := 1) (ax := []) (by decide +kernel))
theorem e207_6 {v2 : Value} {v1 : Value} : mr207 S P 6 L (v2 :: v1 :: st) sh M c s = (mv_ss st ≤ 8 ∧ c ≤ 0 ∧ s ≤ 0 ∧ mv_isO sh (some v1) 5 ∧ mv_kal S 162 [v1, v2] sh M (mr207 S P) 9 L st c s) := (propext (mv_R_iff (i := .invokevirtual 190) (len := 3) (ax := [0, 162, 2, 5, 0, 0, 0, 1192, 1194, 82, 119, 1195]) (by decide +kernel))).trans (q_call0)
theorem e207_9 : mr207 S P 9 L st sh M c s = (mr207 S P 26 L st sh M c s) := propext (mv_R_iff (i := .goto 17) (len := 3) (ax := [26]) (by decide +kernel))
theorem e207_12 : mr207 S P 12 L st sh M c s = (q_isI (q_gv L 1) ∧ mr207 S P 13 L (q_gv L 1 :: st) sh M c s) := (propext (mv_R_iff (i := .iload_n 1) (len := 1) (ax := []) (by decide +kernel))).trans (q_ldI_eq (K := fun st => mr207 S P 13 L st sh M c s))
theorem e207_13 : mr207 S P 13 L st sh M c s = (mr207 S P 14 L (.int (nI 1) :: st) sh M c s) := propext (mv_R_iff (i := .iconst 1) (len := 1) (ax := []) (by decide +kernel))
theorem e207_14 {y : Int32} {x : Int32} : mr207 S P 14 L (.int y :: .int x :: st) sh M c s = (if x = y then mr207 S P 17 L st sh M c s else mr207 S P 25 L st sh M c s) := (propext (mv_R_iff (i := .if_icmp .ne 11) (len := 3) (ax := [25]) (by decide +kernel))).trans (q_br')
theorem e207_17 : mr207 S P 17 L st sh M c s = (q_isA (q_gv L 0) ∧ mr207 S P 18 L (q_gv L 0 :: st) sh M c s) := (propext (mv_R_iff (i := .aload_n 0) (len := 1) (ax := []) (by decide +kernel))).trans (q_ldA_eq (K := fun st => mr207 S P 18 L st sh M c s))
theorem e207_18 : mr207 S P 18 L st sh M c s = (mr207 S P 19 L (.int (nI 0) :: st) sh M c s) := propext (mv_R_iff (i := .iconst 0) (len := 1) (ax := []) (by decide +kernel))
theorem e207_19 {v2 : Value} {v1 : Value} : mr207 S P 19 L (v2 :: v1 :: st) sh M c s = (mv_ss st ≤ 8 ∧ c ≤ 0 ∧ s ≤ 0 ∧ mv_isO sh (some v1) 5 ∧ mv_kal S 164 [v1, v2] sh M (mr207 S P) 22 L st c s) := (propext (mv_R_iff (i := .invokevirtual 194) (len := 3) (ax := [0, 164, 2, 5, 0, 0, 0, 1196, 1198, 83, 119, 1199]) (by decide +kernel))).trans (q_call0)
theorem e207_22 : mr207 S P 22 L st sh M c s = (mr207 S P 26 L st sh M c s) := propext (mv_R_iff (i := .goto 4) (len := 3) (ax := [26]) (by decide +kernel))
theorem e207_25 : mr207 S P 25 L st sh M c s = (mr207 S P 26 L (.int (Int32.ofInt (-1)) :: st) sh M c s) := propext (mv_R_iff (i := .iconst (-1)) (len := 1) (ax := []) (by decide +kernel))
theorem e207_26 {x : Int32} : mr207 S P 26 L [.int x] sh M c s = (mv_nr 0 x ∧ P (some (.int x)) sh M) := propext (mv_R_iff (i := .ireturn) (len := 1) (ax := [0]) (by decide +kernel))
-- 208: TurnedTabletsModel.turn(II)I
def mk208 : mv_Cd := [
  (0, .aload_n 0, 1, []),
  (1, .iload_n 1, 1, []),
  (2, .invokevirtual 197, 3, [0, 181, 2, 5, 0, 0, 0, 1163, 1165, 79, 119, 1166]),
  (5, .ifCond .eq 10, 3, [15]),
  (8, .iload_n 2, 1, []),
  (9, .invokestatic 209, 3, [3, 194, 1, 0, 0, 0, 0, 1208, 1209, 119, 1210]),
  (12, .ifCond .ne 5, 3, [17]),
  (15, .iconst (-1), 1, []),
  (16, .ireturn, 1, [0]),
  (17, .aload_n 0, 1, []),
  (18, .iconst 0, 1, []),
  (19, .iload_n 1, 1, []),
  (20, .iload_n 2, 1, []),
  (21, .invokevirtual 176, 3, [0, 159, 4, 5, 0, 0, 0, 1227, 1229, 88, 119, 1230]),
  (24, .ifCond .eq 6, 3, [30]),
  (27, .bipush (-2), 2, []),
  (29, .ireturn, 1, [0]),
  (30, .aload_n 0, 1, []),
  (31, .invokevirtual 212, 3, [0, 157, 1, 5, 0, 0, 0, 1211, 1213, 84, 119, 1214]),
  (34, .aload_n 0, 1, []),
  (35, .iconst 0, 1, []),
  (36, .iload_n 1, 1, []),
  (37, .iload_n 2, 1, []),
  (38, .invokevirtual 183, 3, [0, 160, 4, 5, 0, 0, 0, 1235, 1237, 90, 119, 1238]),
  (41, .pop, 1, []),
  (42, .aload_n 0, 1, []),
  (43, .getfield 7, 3, [1025, 0, 5, 0]),
  (46, .bipush 6, 2, []),
  (48, .iload_n 1, 1, []),
  (49, .iadd, 1, []),
  (50, .iaload, 1, []),
  (51, .ireturn, 1, [0])]
def mr208 (S : Nat → mv_Sp) (P : mv_Post) : mv_Kt := mv_R mv_DF mk208 S (0, 0) P
theorem e208_0 : mr208 S P 0 L st sh M c s = (q_isA (q_gv L 0) ∧ mr208 S P 1 L (q_gv L 0 :: st) sh M c s) := (propext (mv_R_iff (i := .aload_n 0) (len := 1) (ax := []) (by decide +kernel))).trans (q_ldA_eq (K := fun st => mr208 S P 1 L st sh M c s))
theorem e208_1 : mr208 S P 1 L st sh M c s = (q_isI (q_gv L 1) ∧ mr208 S P 2 L (q_gv L 1 :: st) sh M c s) := (propext (mv_R_iff (i := .iload_n 1) (len := 1) (ax := []) (by decide +kernel))).trans (q_ldI_eq (K := fun st => mr208 S P 2 L st sh M c s))
theorem e208_2 {v2 : Value} {v1 : Value} : mr208 S P 2 L (v2 :: v1 :: st) sh M c s = (mv_ss st ≤ 8 ∧ c ≤ 0 ∧ s ≤ 0 ∧ mv_isO sh (some v1) 5 ∧ mv_kal S 181 [v1, v2] sh M (mr208 S P) 5 L st c s) := (propext (mv_R_iff (i := .invokevirtual 197) (len := 3) (ax := [0, 181, 2, 5, 0, 0, 0, 1163, 1165, 79, 119, 1166]) (by decide +kernel))).trans (q_call0)
theorem e208_5 {x : Int32} : mr208 S P 5 L (.int x :: st) sh M c s = (if x = nI 0 then mr208 S P 15 L st sh M c s else mr208 S P 8 L st sh M c s) := (propext (mv_R_iff (i := .ifCond .eq 10) (len := 3) (ax := [15]) (by decide +kernel))).trans (q_br)
theorem e208_8 : mr208 S P 8 L st sh M c s = (q_isI (q_gv L 2) ∧ mr208 S P 9 L (q_gv L 2 :: st) sh M c s) := (propext (mv_R_iff (i := .iload_n 2) (len := 1) (ax := []) (by decide +kernel))).trans (q_ldI_eq (K := fun st => mr208 S P 9 L st sh M c s))
theorem e208_9 {v1 : Value} : mr208 S P 9 L (v1 :: st) sh M c s = (mv_ss st ≤ 8 ∧ c ≤ 0 ∧ s ≤ 0 ∧ True ∧ mv_kal S 194 [v1] sh M (mr208 S P) 12 L st c s) := (propext (mv_R_iff (i := .invokestatic 209) (len := 3) (ax := [3, 194, 1, 0, 0, 0, 0, 1208, 1209, 119, 1210]) (by decide +kernel))).trans (q_call3)
theorem e208_12 {x : Int32} : mr208 S P 12 L (.int x :: st) sh M c s = (if x = nI 0 then mr208 S P 15 L st sh M c s else mr208 S P 17 L st sh M c s) := (propext (mv_R_iff (i := .ifCond .ne 5) (len := 3) (ax := [17]) (by decide +kernel))).trans (q_br')
theorem e208_15 : mr208 S P 15 L st sh M c s = (mr208 S P 16 L (.int (Int32.ofInt (-1)) :: st) sh M c s) := propext (mv_R_iff (i := .iconst (-1)) (len := 1) (ax := []) (by decide +kernel))
theorem e208_16 {x : Int32} : mr208 S P 16 L [.int x] sh M c s = (mv_nr 0 x ∧ P (some (.int x)) sh M) := propext (mv_R_iff (i := .ireturn) (len := 1) (ax := [0]) (by decide +kernel))
theorem e208_17 : mr208 S P 17 L st sh M c s = (q_isA (q_gv L 0) ∧ mr208 S P 18 L (q_gv L 0 :: st) sh M c s) := (propext (mv_R_iff (i := .aload_n 0) (len := 1) (ax := []) (by decide +kernel))).trans (q_ldA_eq (K := fun st => mr208 S P 18 L st sh M c s))
theorem e208_18 : mr208 S P 18 L st sh M c s = (mr208 S P 19 L (.int (nI 0) :: st) sh M c s) := propext (mv_R_iff (i := .iconst 0) (len := 1) (ax := []) (by decide +kernel))
theorem e208_19 : mr208 S P 19 L st sh M c s = (q_isI (q_gv L 1) ∧ mr208 S P 20 L (q_gv L 1 :: st) sh M c s) := (propext (mv_R_iff (i := .iload_n 1) (len := 1) (ax := []) (by decide +kernel))).trans (q_ldI_eq (K := fun st => mr208 S P 20 L st sh M c s))
theorem e208_20 : mr208 S P 20 L st sh M c s = (q_isI (q_gv L 2) ∧ mr208 S P 21 L (q_gv L 2 :: st) sh M c s) := (propext (mv_R_iff (i := .iload_n 2) (len := 1) (ax := []) (by decide +kernel))).trans (q_ldI_eq (K := fun st => mr208 S P 21 L st sh M c s))
theorem e208_21 {v4 : Value} {v3 : Value} {v2 : Value} {v1 : Value} : mr208 S P 21 L (v4 :: v3 :: v2 :: v1 :: st) sh M c s = (mv_ss st ≤ 8 ∧ c ≤ 0 ∧ s ≤ 0 ∧ mv_isO sh (some v1) 5 ∧ mv_kal S 159 [v1, v2, v3, v4] sh M (mr208 S P) 24 L st c s) := (propext (mv_R_iff (i := .invokevirtual 176) (len := 3) (ax := [0, 159, 4, 5, 0, 0, 0, 1227, 1229, 88, 119, 1230]) (by decide +kernel))).trans (q_call0)
theorem e208_24 {x : Int32} : mr208 S P 24 L (.int x :: st) sh M c s = (if x = nI 0 then mr208 S P 30 L st sh M c s else mr208 S P 27 L st sh M c s) := (propext (mv_R_iff (i := .ifCond .eq 6) (len := 3) (ax := [30]) (by decide +kernel))).trans (q_br)
theorem e208_27 : mr208 S P 27 L st sh M c s = (mr208 S P 29 L (.int (Int32.ofInt (-2)) :: st) sh M c s) := (propext (mv_R_iff (i := .bipush (-2)) (len := 2) (ax := []) (by decide +kernel))).trans (congrArg (fun z => mr208 S P 29 L (.int z :: st) sh M c s) (by decide : (Int8.ofInt (-2)).toInt32 = Int32.ofInt (-2)))
theorem e208_29 {x : Int32} : mr208 S P 29 L [.int x] sh M c s = (mv_nr 0 x ∧ P (some (.int x)) sh M) := propext (mv_R_iff (i := .ireturn) (len := 1) (ax := [0]) (by decide +kernel))
theorem e208_30 : mr208 S P 30 L st sh M c s = (q_isA (q_gv L 0) ∧ mr208 S P 31 L (q_gv L 0 :: st) sh M c s) := (propext (mv_R_iff (i := .aload_n 0) (len := 1) (ax := []) (by decide +kernel))).trans (q_ldA_eq (K := fun st => mr208 S P 31 L st sh M c s))
theorem e208_31 {v1 : Value} : mr208 S P 31 L (v1 :: st) sh M c s = (mv_ss st ≤ 8 ∧ c ≤ 0 ∧ s ≤ 0 ∧ mv_isO sh (some v1) 5 ∧ mv_kal S 157 [v1] sh M (mr208 S P) 34 L st c s) := (propext (mv_R_iff (i := .invokevirtual 212) (len := 3) (ax := [0, 157, 1, 5, 0, 0, 0, 1211, 1213, 84, 119, 1214]) (by decide +kernel))).trans (q_call0)
theorem e208_34 : mr208 S P 34 L st sh M c s = (q_isA (q_gv L 0) ∧ mr208 S P 35 L (q_gv L 0 :: st) sh M c s) := (propext (mv_R_iff (i := .aload_n 0) (len := 1) (ax := []) (by decide +kernel))).trans (q_ldA_eq (K := fun st => mr208 S P 35 L st sh M c s))
theorem e208_35 : mr208 S P 35 L st sh M c s = (mr208 S P 36 L (.int (nI 0) :: st) sh M c s) := propext (mv_R_iff (i := .iconst 0) (len := 1) (ax := []) (by decide +kernel))
theorem e208_36 : mr208 S P 36 L st sh M c s = (q_isI (q_gv L 1) ∧ mr208 S P 37 L (q_gv L 1 :: st) sh M c s) := (propext (mv_R_iff (i := .iload_n 1) (len := 1) (ax := []) (by decide +kernel))).trans (q_ldI_eq (K := fun st => mr208 S P 37 L st sh M c s))
theorem e208_37 : mr208 S P 37 L st sh M c s = (q_isI (q_gv L 2) ∧ mr208 S P 38 L (q_gv L 2 :: st) sh M c s) := (propext (mv_R_iff (i := .iload_n 2) (len := 1) (ax := []) (by decide +kernel))).trans (q_ldI_eq (K := fun st => mr208 S P 38 L st sh M c s))
theorem e208_38 {v4 : Value} {v3 : Value} {v2 : Value} {v1 : Value} : mr208 S P 38 L (v4 :: v3 :: v2 :: v1 :: st) sh M c s = (mv_ss st ≤ 8 ∧ c ≤ 0 ∧ s ≤ 0 ∧ mv_isO sh (some v1) 5 ∧ mv_kal S 160 [v1, v2, v3, v4] sh M (mr208 S P) 41 L st c s) := (propext (mv_R_iff (i := .invokevirtual 183) (len := 3) (ax := [0, 160, 4, 5, 0, 0, 0, 1235, 1237, 90, 119, 1238]) (by decide +kernel))).trans (q_call0)
theorem e208_41 {x : Int32} : mr208 S P 41 L (.int x :: st) sh M c s = (mr208 S P 42 L st sh M c s) := propext (mv_R_iff (i := .pop) (len := 1) (ax := []) (by decide +kernel))
theorem e208_41r {x : Nat} : mr208 S P 41 L (.ref x :: st) sh M c s = (mr208 S P 42 L st sh M c s) := propext (mv_R_iff (i := .pop) (len := 1) (ax := []) (by decide +kernel))
theorem e208_42 : mr208 S P 42 L st sh M c s = (q_isA (q_gv L 0) ∧ mr208 S P 43 L (q_gv L 0 :: st) sh M c s) := (propext (mv_R_iff (i := .aload_n 0) (len := 1) (ax := []) (by decide +kernel))).trans (q_ldA_eq (K := fun st => mr208 S P 43 L st sh M c s))
theorem e208_43 {a : Nat} : mr208 S P 43 L (.ref a :: st) sh M c s = (mv_kgf sh M a 5 0 (mr208 S P) 46 L st c s) := propext (mv_R_iff (i := .getfield 7) (len := 3) (ax := [1025, 0, 5, 0]) (by decide +kernel))
theorem e208_46 : mr208 S P 46 L st sh M c s = (mr208 S P 48 L (.int (nI 6) :: st) sh M c s) := propext (mv_R_iff (i := .bipush 6) (len := 2) (ax := []) (by decide +kernel))
theorem e208_48 : mr208 S P 48 L st sh M c s = (q_isI (q_gv L 1) ∧ mr208 S P 49 L (q_gv L 1 :: st) sh M c s) := (propext (mv_R_iff (i := .iload_n 1) (len := 1) (ax := []) (by decide +kernel))).trans (q_ldI_eq (K := fun st => mr208 S P 49 L st sh M c s))
theorem e208_49 {y : Int32} {x : Int32} : mr208 S P 49 L (.int y :: .int x :: st) sh M c s = (mr208 S P 50 L (.int (x + y) :: st) sh M c s) := propext (mv_R_iff (i := .iadd) (len := 1) (ax := []) (by decide +kernel))
theorem e208_50 {i : Int32} {a : Nat} : mr208 S P 50 L (.int i :: .ref a :: st) sh M c s = (mv_kld sh M a i (mr208 S P) 51 L st c s) := propext (mv_R_iff (i := .iaload) (len := 1) (ax := []) (by decide +kernel))
theorem e208_51 {x : Int32} : mr208 S P 51 L [.int x] sh M c s = (mv_nr 0 x ∧ P (some (.int x)) sh M) := propext (mv_R_iff (i := .ireturn) (len := 1) (ax := [0]) (by decide +kernel))
-- 209: TurnedTabletsModel.twist(I)I
def mk209 : mv_Cd := [
  (0, .aload_n 0, 1, []),
  (1, .iload_n 1, 1, []),
  (2, .invokevirtual 197, 3, [0, 181, 2, 5, 0, 0, 0, 1163, 1165, 79, 119, 1166]),
  (5, .ifCond .eq 14, 3, [19]),
  (8, .aload_n 0, 1, []),
  (9, .iload_n 1, 1, []),
  (10, .invokevirtual 218, 3, [0, 191, 2, 5, 0, 0, 0, 1271, 1273, 91, 119, 1274]),
  (13, .bipush 40, 2, []),
  (15, .iadd, 1, []),
  (16, .goto 4, 3, [20]),
  (19, .iconst (-1), 1, []),
  (20, .ireturn, 1, [0])]
def mr209 (S : Nat → mv_Sp) (P : mv_Post) : mv_Kt := mv_R mv_DF mk209 S (0, 0) P
theorem e209_0 : mr209 S P 0 L st sh M c s = (q_isA (q_gv L 0) ∧ mr209 S P 1 L (q_gv L 0 :: st) sh M c s) := (propext (mv_R_iff (i := .aload_n 0) (len := 1) (ax := []) (by decide +kernel))).trans (q_ldA_eq (K := fun st => mr209 S P 1 L st sh M c s))
theorem e209_1 : mr209 S P 1 L st sh M c s = (q_isI (q_gv L 1) ∧ mr209 S P 2 L (q_gv L 1 :: st) sh M c s) := (propext (mv_R_iff (i := .iload_n 1) (len := 1) (ax := []) (by decide +kernel))).trans (q_ldI_eq (K := fun st => mr209 S P 2 L st sh M c s))
theorem e209_2 {v2 : Value} {v1 : Value} : mr209 S P 2 L (v2 :: v1 :: st) sh M c s = (mv_ss st ≤ 8 ∧ c ≤ 0 ∧ s ≤ 0 ∧ mv_isO sh (some v1) 5 ∧ mv_kal S 181 [v1, v2] sh M (mr209 S P) 5 L st c s) := (propext (mv_R_iff (i := .invokevirtual 197) (len := 3) (ax := [0, 181, 2, 5, 0, 0, 0, 1163, 1165, 79, 119, 1166]) (by decide +kernel))).trans (q_call0)
theorem e209_5 {x : Int32} : mr209 S P 5 L (.int x :: st) sh M c s = (if x = nI 0 then mr209 S P 19 L st sh M c s else mr209 S P 8 L st sh M c s) := (propext (mv_R_iff (i := .ifCond .eq 14) (len := 3) (ax := [19]) (by decide +kernel))).trans (q_br)
theorem e209_8 : mr209 S P 8 L st sh M c s = (q_isA (q_gv L 0) ∧ mr209 S P 9 L (q_gv L 0 :: st) sh M c s) := (propext (mv_R_iff (i := .aload_n 0) (len := 1) (ax := []) (by decide +kernel))).trans (q_ldA_eq (K := fun st => mr209 S P 9 L st sh M c s))
theorem e209_9 : mr209 S P 9 L st sh M c s = (q_isI (q_gv L 1) ∧ mr209 S P 10 L (q_gv L 1 :: st) sh M c s) := (propext (mv_R_iff (i := .iload_n 1) (len := 1) (ax := []) (by decide +kernel))).trans (q_ldI_eq (K := fun st => mr209 S P 10 L st sh M c s))
theorem e209_10 {v2 : Value} {v1 : Value} : mr209 S P 10 L (v2 :: v1 :: st) sh M c s = (mv_ss st ≤ 8 ∧ c ≤ 0 ∧ s ≤ 0 ∧ mv_isO sh (some v1) 5 ∧ mv_kal S 191 [v1, v2] sh M (mr209 S P) 13 L st c s) := (propext (mv_R_iff (i := .invokevirtual 218) (len := 3) (ax := [0, 191, 2, 5, 0, 0, 0, 1271, 1273, 91, 119, 1274]) (by decide +kernel))).trans (q_call0)
theorem e209_13 : mr209 S P 13 L st sh M c s = (mr209 S P 15 L (.int (nI 40) :: st) sh M c s) := propext (mv_R_iff (i := .bipush 40) (len := 2) (ax := []) (by decide +kernel))
theorem e209_15 {y : Int32} {x : Int32} : mr209 S P 15 L (.int y :: .int x :: st) sh M c s = (mr209 S P 16 L (.int (x + y) :: st) sh M c s) := propext (mv_R_iff (i := .iadd) (len := 1) (ax := []) (by decide +kernel))
theorem e209_16 : mr209 S P 16 L st sh M c s = (mr209 S P 20 L st sh M c s) := propext (mv_R_iff (i := .goto 4) (len := 3) (ax := [20]) (by decide +kernel))
theorem e209_19 : mr209 S P 19 L st sh M c s = (mr209 S P 20 L (.int (Int32.ofInt (-1)) :: st) sh M c s) := propext (mv_R_iff (i := .iconst (-1)) (len := 1) (ax := []) (by decide +kernel))
theorem e209_20 {x : Int32} : mr209 S P 20 L [.int x] sh M c s = (mv_nr 0 x ∧ P (some (.int x)) sh M) := propext (mv_R_iff (i := .ireturn) (len := 1) (ax := [0]) (by decide +kernel))
-- 210: TurnedTabletsModel.undo()I
def mk210 : mv_Cd := [
  (0, .aload_n 0, 1, []),
  (1, .getfield 163, 3, [1026, 0, 5, 1]),
  (4, .ifCond .ne 6, 3, [10]),
  (7, .bipush (-2), 2, []),
  (9, .ireturn, 1, [0]),
  (10, .aload_n 0, 1, []),
  (11, .dup, 1, []),
  (12, .getfield 163, 3, [1026, 0, 5, 1]),
  (15, .iconst 1, 1, []),
  (16, .isub, 1, []),
  (17, .putfield 163, 3, [1026, 0, 5, 1, 0]),
  (20, .aload_n 0, 1, []),
  (21, .sipush 799, 3, []),
  (24, .sipush 799, 3, []),
  (27, .aload_n 0, 1, []),
  (28, .getfield 163, 3, [1026, 0, 5, 1]),
  (31, .imul, 1, []),
  (32, .iadd, 1, []),
  (33, .iconst 0, 1, []),
  (34, .invokevirtual 205, 3, [0, 156, 3, 5, 0, 0, 0, 1215, 1217, 85, 119, 1218]),
  (37, .aload_n 0, 1, []),
  (38, .getfield 163, 3, [1026, 0, 5, 1]),
  (41, .ireturn, 1, [0])]
def mr210 (S : Nat → mv_Sp) (P : mv_Post) : mv_Kt := mv_R mv_DF mk210 S (0, 0) P
theorem e210_0 : mr210 S P 0 L st sh M c s = (q_isA (q_gv L 0) ∧ mr210 S P 1 L (q_gv L 0 :: st) sh M c s) := (propext (mv_R_iff (i := .aload_n 0) (len := 1) (ax := []) (by decide +kernel))).trans (q_ldA_eq (K := fun st => mr210 S P 1 L st sh M c s))
theorem e210_1 {a : Nat} : mr210 S P 1 L (.ref a :: st) sh M c s = (mv_kgf sh M a 5 1 (mr210 S P) 4 L st c s) := propext (mv_R_iff (i := .getfield 163) (len := 3) (ax := [1026, 0, 5, 1]) (by decide +kernel))
theorem e210_4 {x : Int32} : mr210 S P 4 L (.int x :: st) sh M c s = (if x = nI 0 then mr210 S P 7 L st sh M c s else mr210 S P 10 L st sh M c s) := (propext (mv_R_iff (i := .ifCond .ne 6) (len := 3) (ax := [10]) (by decide +kernel))).trans (q_br')
theorem e210_7 : mr210 S P 7 L st sh M c s = (mr210 S P 9 L (.int (Int32.ofInt (-2)) :: st) sh M c s) := (propext (mv_R_iff (i := .bipush (-2)) (len := 2) (ax := []) (by decide +kernel))).trans (congrArg (fun z => mr210 S P 9 L (.int z :: st) sh M c s) (by decide : (Int8.ofInt (-2)).toInt32 = Int32.ofInt (-2)))
theorem e210_9 {x : Int32} : mr210 S P 9 L [.int x] sh M c s = (mv_nr 0 x ∧ P (some (.int x)) sh M) := propext (mv_R_iff (i := .ireturn) (len := 1) (ax := [0]) (by decide +kernel))
theorem e210_10 : mr210 S P 10 L st sh M c s = (q_isA (q_gv L 0) ∧ mr210 S P 11 L (q_gv L 0 :: st) sh M c s) := (propext (mv_R_iff (i := .aload_n 0) (len := 1) (ax := []) (by decide +kernel))).trans (q_ldA_eq (K := fun st => mr210 S P 11 L st sh M c s))
theorem e210_11 {x : Int32} : mr210 S P 11 L (.int x :: st) sh M c s = (mr210 S P 12 L (.int x :: .int x :: st) sh M c s) := propext (mv_R_iff (i := .dup) (len := 1) (ax := []) (by decide +kernel))
theorem e210_11r {x : Nat} : mr210 S P 11 L (.ref x :: st) sh M c s = (mr210 S P 12 L (.ref x :: .ref x :: st) sh M c s) := propext (mv_R_iff (i := .dup) (len := 1) (ax := []) (by decide +kernel))
theorem e210_12 {a : Nat} : mr210 S P 12 L (.ref a :: st) sh M c s = (mv_kgf sh M a 5 1 (mr210 S P) 15 L st c s) := propext (mv_R_iff (i := .getfield 163) (len := 3) (ax := [1026, 0, 5, 1]) (by decide +kernel))
theorem e210_15 : mr210 S P 15 L st sh M c s = (mr210 S P 16 L (.int (nI 1) :: st) sh M c s) := propext (mv_R_iff (i := .iconst 1) (len := 1) (ax := []) (by decide +kernel))
theorem e210_16 {y : Int32} {x : Int32} : mr210 S P 16 L (.int y :: .int x :: st) sh M c s = (mr210 S P 17 L (.int (x - y) :: st) sh M c s) := propext (mv_R_iff (i := .isub) (len := 1) (ax := []) (by decide +kernel))
theorem e210_17 {x : Int32} {a : Nat} : mr210 S P 17 L (.int x :: .ref a :: st) sh M c s = (True ∧ mv_kpf sh M a 5 1 x (mr210 S P) 20 L st c s) := propext (mv_R_iff (i := .putfield 163) (len := 3) (ax := [1026, 0, 5, 1, 0]) (by decide +kernel))
theorem e210_20 : mr210 S P 20 L st sh M c s = (q_isA (q_gv L 0) ∧ mr210 S P 21 L (q_gv L 0 :: st) sh M c s) := (propext (mv_R_iff (i := .aload_n 0) (len := 1) (ax := []) (by decide +kernel))).trans (q_ldA_eq (K := fun st => mr210 S P 21 L st sh M c s))
theorem e210_21 : mr210 S P 21 L st sh M c s = (mr210 S P 24 L (.int (nI 799) :: st) sh M c s) := propext (mv_R_iff (i := .sipush 799) (len := 3) (ax := []) (by decide +kernel))
theorem e210_24 : mr210 S P 24 L st sh M c s = (mr210 S P 27 L (.int (nI 799) :: st) sh M c s) := propext (mv_R_iff (i := .sipush 799) (len := 3) (ax := []) (by decide +kernel))
theorem e210_27 : mr210 S P 27 L st sh M c s = (q_isA (q_gv L 0) ∧ mr210 S P 28 L (q_gv L 0 :: st) sh M c s) := (propext (mv_R_iff (i := .aload_n 0) (len := 1) (ax := []) (by decide +kernel))).trans (q_ldA_eq (K := fun st => mr210 S P 28 L st sh M c s))
theorem e210_28 {a : Nat} : mr210 S P 28 L (.ref a :: st) sh M c s = (mv_kgf sh M a 5 1 (mr210 S P) 31 L st c s) := propext (mv_R_iff (i := .getfield 163) (len := 3) (ax := [1026, 0, 5, 1]) (by decide +kernel))
theorem e210_31 {y : Int32} {x : Int32} : mr210 S P 31 L (.int y :: .int x :: st) sh M c s = (mr210 S P 32 L (.int (x * y) :: st) sh M c s) := propext (mv_R_iff (i := .imul) (len := 1) (ax := []) (by decide +kernel))
theorem e210_32 {y : Int32} {x : Int32} : mr210 S P 32 L (.int y :: .int x :: st) sh M c s = (mr210 S P 33 L (.int (x + y) :: st) sh M c s) := propext (mv_R_iff (i := .iadd) (len := 1) (ax := []) (by decide +kernel))
theorem e210_33 : mr210 S P 33 L st sh M c s = (mr210 S P 34 L (.int (nI 0) :: st) sh M c s) := propext (mv_R_iff (i := .iconst 0) (len := 1) (ax := []) (by decide +kernel))
theorem e210_34 {v3 : Value} {v2 : Value} {v1 : Value} : mr210 S P 34 L (v3 :: v2 :: v1 :: st) sh M c s = (mv_ss st ≤ 8 ∧ c ≤ 0 ∧ s ≤ 0 ∧ mv_isO sh (some v1) 5 ∧ mv_kal S 156 [v1, v2, v3] sh M (mr210 S P) 37 L st c s) := (propext (mv_R_iff (i := .invokevirtual 205) (len := 3) (ax := [0, 156, 3, 5, 0, 0, 0, 1215, 1217, 85, 119, 1218]) (by decide +kernel))).trans (q_call0)
theorem e210_37 : mr210 S P 37 L st sh M c s = (q_isA (q_gv L 0) ∧ mr210 S P 38 L (q_gv L 0 :: st) sh M c s) := (propext (mv_R_iff (i := .aload_n 0) (len := 1) (ax := []) (by decide +kernel))).trans (q_ldA_eq (K := fun st => mr210 S P 38 L st sh M c s))
theorem e210_38 {a : Nat} : mr210 S P 38 L (.ref a :: st) sh M c s = (mv_kgf sh M a 5 1 (mr210 S P) 41 L st c s) := propext (mv_R_iff (i := .getfield 163) (len := 3) (ax := [1026, 0, 5, 1]) (by decide +kernel))
theorem e210_41 {x : Int32} : mr210 S P 41 L [.int x] sh M c s = (mv_nr 0 x ∧ P (some (.int x)) sh M) := propext (mv_R_iff (i := .ireturn) (len := 1) (ax := [0]) (by decide +kernel))
-- 211: TurnedTabletsModel.unweave()I
def mk211 : mv_Cd := [
  (0, .aload_n 0, 1, []),
  (1, .getfield 7, 3, [1025, 0, 5, 0]),
  (4, .bipush 30, 2, []),
  (6, .iaload, 1, []),
  (7, .ifCond .ne 6, 3, [13]),
  (10, .bipush (-2), 2, []),
  (12, .ireturn, 1, [0]),
  (13, .aload_n 0, 1, []),
  (14, .invokevirtual 212, 3, [0, 157, 1, 5, 0, 0, 0, 1211, 1213, 84, 119, 1214]),
  (17, .aload_n 0, 1, []),
  (18, .getfield 7, 3, [1025, 0, 5, 0]),
  (21, .bipush 30, 2, []),
  (23, .dup2, 1, []),
  (24, .iaload, 1, []),
  (25, .iconst 1, 1, []),
  (26, .isub, 1, []),
  (27, .iastore, 1, []),
  (28, .iconst 0, 1, []),
  (29, .istore_n 1, 1, []),
  (30, .iload_n 1, 1, []),
  (31, .bipush 30, 2, []),
  (33, .if_icmp .ge 37, 3, [70]),
  (36, .aload_n 0, 1, []),
  (37, .getfield 7, 3, [1025, 0, 5, 0]),
  (40, .iload_n 1, 1, []),
  (41, .aload_n 0, 1, []),
  (42, .getfield 7, 3, [1025, 0, 5, 0]),
  (45, .bipush 31, 2, []),
  (47, .bipush 32, 2, []),
  (49, .aload_n 0, 1, []),
  (50, .getfield 7, 3, [1025, 0, 5, 0]),
  (53, .bipush 30, 2, []),
  (55, .iaload, 1, []),
  (56, .imul, 1, []),
  (57, .iadd, 1, []),
  (58, .iconst 2, 1, []),
  (59, .iadd, 1, []),
  (60, .iload_n 1, 1, []),
  (61, .iadd, 1, []),
  (62, .iaload, 1, []),
  (63, .iastore, 1, []),
  (64, .iinc 1 1, 3, []),
  (67, .goto (-37), 3, [30]),
  (70, .aload_n 0, 1, []),
  (71, .getfield 7, 3, [1025, 0, 5, 0]),
  (74, .bipush 30, 2, []),
  (76, .iaload, 1, []),
  (77, .ireturn, 1, [0])]
def mr211 (S : Nat → mv_Sp) (P : mv_Post) : mv_Kt := mv_R mv_DF mk211 S (0, 0) P
theorem e211_0 : mr211 S P 0 L st sh M c s = (q_isA (q_gv L 0) ∧ mr211 S P 1 L (q_gv L 0 :: st) sh M c s) := (propext (mv_R_iff (i := .aload_n 0) (len := 1) (ax := []) (by decide +kernel))).trans (q_ldA_eq (K := fun st => mr211 S P 1 L st sh M c s))
theorem e211_1 {a : Nat} : mr211 S P 1 L (.ref a :: st) sh M c s = (mv_kgf sh M a 5 0 (mr211 S P) 4 L st c s) := propext (mv_R_iff (i := .getfield 7) (len := 3) (ax := [1025, 0, 5, 0]) (by decide +kernel))
theorem e211_4 : mr211 S P 4 L st sh M c s = (mr211 S P 6 L (.int (nI 30) :: st) sh M c s) := propext (mv_R_iff (i := .bipush 30) (len := 2) (ax := []) (by decide +kernel))
theorem e211_6 {i : Int32} {a : Nat} : mr211 S P 6 L (.int i :: .ref a :: st) sh M c s = (mv_kld sh M a i (mr211 S P) 7 L st c s) := propext (mv_R_iff (i := .iaload) (len := 1) (ax := []) (by decide +kernel))
theorem e211_7 {x : Int32} : mr211 S P 7 L (.int x :: st) sh M c s = (if x = nI 0 then mr211 S P 10 L st sh M c s else mr211 S P 13 L st sh M c s) := (propext (mv_R_iff (i := .ifCond .ne 6) (len := 3) (ax := [13]) (by decide +kernel))).trans (q_br')
theorem e211_10 : mr211 S P 10 L st sh M c s = (mr211 S P 12 L (.int (Int32.ofInt (-2)) :: st) sh M c s) := (propext (mv_R_iff (i := .bipush (-2)) (len := 2) (ax := []) (by decide +kernel))).trans (congrArg (fun z => mr211 S P 12 L (.int z :: st) sh M c s) (by decide : (Int8.ofInt (-2)).toInt32 = Int32.ofInt (-2)))
theorem e211_12 {x : Int32} : mr211 S P 12 L [.int x] sh M c s = (mv_nr 0 x ∧ P (some (.int x)) sh M) := propext (mv_R_iff (i := .ireturn) (len := 1) (ax := [0]) (by decide +kernel))
theorem e211_13 : mr211 S P 13 L st sh M c s = (q_isA (q_gv L 0) ∧ mr211 S P 14 L (q_gv L 0 :: st) sh M c s) := (propext (mv_R_iff (i := .aload_n 0) (len := 1) (ax := []) (by decide +kernel))).trans (q_ldA_eq (K := fun st => mr211 S P 14 L st sh M c s))
theorem e211_14 {v1 : Value} : mr211 S P 14 L (v1 :: st) sh M c s = (mv_ss st ≤ 8 ∧ c ≤ 0 ∧ s ≤ 0 ∧ mv_isO sh (some v1) 5 ∧ mv_kal S 157 [v1] sh M (mr211 S P) 17 L st c s) := (propext (mv_R_iff (i := .invokevirtual 212) (len := 3) (ax := [0, 157, 1, 5, 0, 0, 0, 1211, 1213, 84, 119, 1214]) (by decide +kernel))).trans (q_call0)
theorem e211_17 : mr211 S P 17 L st sh M c s = (q_isA (q_gv L 0) ∧ mr211 S P 18 L (q_gv L 0 :: st) sh M c s) := (propext (mv_R_iff (i := .aload_n 0) (len := 1) (ax := []) (by decide +kernel))).trans (q_ldA_eq (K := fun st => mr211 S P 18 L st sh M c s))
theorem e211_18 {a : Nat} : mr211 S P 18 L (.ref a :: st) sh M c s = (mv_kgf sh M a 5 0 (mr211 S P) 21 L st c s) := propext (mv_R_iff (i := .getfield 7) (len := 3) (ax := [1025, 0, 5, 0]) (by decide +kernel))
theorem e211_21 : mr211 S P 21 L st sh M c s = (mr211 S P 23 L (.int (nI 30) :: st) sh M c s) := propext (mv_R_iff (i := .bipush 30) (len := 2) (ax := []) (by decide +kernel))
theorem e211_23 {x : Int32} {y : Int32} : mr211 S P 23 L (.int x :: .int y :: st) sh M c s = (mr211 S P 24 L (.int x :: .int y :: .int x :: .int y :: st) sh M c s) := propext (mv_R_iff (i := .dup2) (len := 1) (ax := []) (by decide +kernel))
theorem e211_23q {x : Int32} {y : Nat} : mr211 S P 23 L (.int x :: .ref y :: st) sh M c s = (mr211 S P 24 L (.int x :: .ref y :: .int x :: .ref y :: st) sh M c s) := propext (mv_R_iff (i := .dup2) (len := 1) (ax := []) (by decide +kernel))
theorem e211_23r {x : Nat} {y : Int32} : mr211 S P 23 L (.ref x :: .int y :: st) sh M c s = (mr211 S P 24 L (.ref x :: .int y :: .ref x :: .int y :: st) sh M c s) := propext (mv_R_iff (i := .dup2) (len := 1) (ax := []) (by decide +kernel))
theorem e211_23rq {x : Nat} {y : Nat} : mr211 S P 23 L (.ref x :: .ref y :: st) sh M c s = (mr211 S P 24 L (.ref x :: .ref y :: .ref x :: .ref y :: st) sh M c s) := propext (mv_R_iff (i := .dup2) (len := 1) (ax := []) (by decide +kernel))
theorem e211_24 {i : Int32} {a : Nat} : mr211 S P 24 L (.int i :: .ref a :: st) sh M c s = (mv_kld sh M a i (mr211 S P) 25 L st c s) := propext (mv_R_iff (i := .iaload) (len := 1) (ax := []) (by decide +kernel))
theorem e211_25 : mr211 S P 25 L st sh M c s = (mr211 S P 26 L (.int (nI 1) :: st) sh M c s) := propext (mv_R_iff (i := .iconst 1) (len := 1) (ax := []) (by decide +kernel))
theorem e211_26 {y : Int32} {x : Int32} : mr211 S P 26 L (.int y :: .int x :: st) sh M c s = (mr211 S P 27 L (.int (x - y) :: st) sh M c s) := propext (mv_R_iff (i := .isub) (len := 1) (ax := []) (by decide +kernel))
theorem e211_27 {x : Int32} {i : Int32} {a : Nat} : mr211 S P 27 L (.int x :: .int i :: .ref a :: st) sh M c s = (mv_kst sh M a i x (mr211 S P) 28 L st c s) := propext (mv_R_iff (i := .iastore) (len := 1) (ax := []) (by decide +kernel))
theorem e211_28 : mr211 S P 28 L st sh M c s = (mr211 S P 29 L (.int (nI 0) :: st) sh M c s) := propext (mv_R_iff (i := .iconst 0) (len := 1) (ax := []) (by decide +kernel))
theorem e211_29 {x : Int32} : mr211 S P 29 L (.int x :: st) sh M c s = (q_hs L 1 ∧ mr211 S P 30 (L.set 1 (some (.int x))) st sh M c s) := (propext (mv_R_iff (i := .istore_n 1) (len := 1) (ax := []) (by decide +kernel))).trans (q_st_eq (K := fun L => mr211 S P 30 L st sh M c s))
theorem e211_30 : mr211 S P 30 L st sh M c s = (q_isI (q_gv L 1) ∧ mr211 S P 31 L (q_gv L 1 :: st) sh M c s) := (propext (mv_R_iff (i := .iload_n 1) (len := 1) (ax := []) (by decide +kernel))).trans (q_ldI_eq (K := fun st => mr211 S P 31 L st sh M c s))
theorem e211_31 : mr211 S P 31 L st sh M c s = (mr211 S P 33 L (.int (nI 30) :: st) sh M c s) := propext (mv_R_iff (i := .bipush 30) (len := 2) (ax := []) (by decide +kernel))
theorem e211_33 {y : Int32} {x : Int32} : mr211 S P 33 L (.int y :: .int x :: st) sh M c s = (if y ≤ x then mr211 S P 70 L st sh M c s else mr211 S P 36 L st sh M c s) := (propext (mv_R_iff (i := .if_icmp .ge 37) (len := 3) (ax := [70]) (by decide +kernel))).trans (q_br)
theorem e211_36 : mr211 S P 36 L st sh M c s = (q_isA (q_gv L 0) ∧ mr211 S P 37 L (q_gv L 0 :: st) sh M c s) := (propext (mv_R_iff (i := .aload_n 0) (len := 1) (ax := []) (by decide +kernel))).trans (q_ldA_eq (K := fun st => mr211 S P 37 L st sh M c s))
theorem e211_37 {a : Nat} : mr211 S P 37 L (.ref a :: st) sh M c s = (mv_kgf sh M a 5 0 (mr211 S P) 40 L st c s) := propext (mv_R_iff (i := .getfield 7) (len := 3) (ax := [1025, 0, 5, 0]) (by decide +kernel))
theorem e211_40 : mr211 S P 40 L st sh M c s = (q_isI (q_gv L 1) ∧ mr211 S P 41 L (q_gv L 1 :: st) sh M c s) := (propext (mv_R_iff (i := .iload_n 1) (len := 1) (ax := []) (by decide +kernel))).trans (q_ldI_eq (K := fun st => mr211 S P 41 L st sh M c s))
theorem e211_41 : mr211 S P 41 L st sh M c s = (q_isA (q_gv L 0) ∧ mr211 S P 42 L (q_gv L 0 :: st) sh M c s) := (propext (mv_R_iff (i := .aload_n 0) (len := 1) (ax := []) (by decide +kernel))).trans (q_ldA_eq (K := fun st => mr211 S P 42 L st sh M c s))
theorem e211_42 {a : Nat} : mr211 S P 42 L (.ref a :: st) sh M c s = (mv_kgf sh M a 5 0 (mr211 S P) 45 L st c s) := propext (mv_R_iff (i := .getfield 7) (len := 3) (ax := [1025, 0, 5, 0]) (by decide +kernel))
theorem e211_45 : mr211 S P 45 L st sh M c s = (mr211 S P 47 L (.int (nI 31) :: st) sh M c s) := propext (mv_R_iff (i := .bipush 31) (len := 2) (ax := []) (by decide +kernel))
theorem e211_47 : mr211 S P 47 L st sh M c s = (mr211 S P 49 L (.int (nI 32) :: st) sh M c s) := propext (mv_R_iff (i := .bipush 32) (len := 2) (ax := []) (by decide +kernel))
theorem e211_49 : mr211 S P 49 L st sh M c s = (q_isA (q_gv L 0) ∧ mr211 S P 50 L (q_gv L 0 :: st) sh M c s) := (propext (mv_R_iff (i := .aload_n 0) (len := 1) (ax := []) (by decide +kernel))).trans (q_ldA_eq (K := fun st => mr211 S P 50 L st sh M c s))
theorem e211_50 {a : Nat} : mr211 S P 50 L (.ref a :: st) sh M c s = (mv_kgf sh M a 5 0 (mr211 S P) 53 L st c s) := propext (mv_R_iff (i := .getfield 7) (len := 3) (ax := [1025, 0, 5, 0]) (by decide +kernel))
theorem e211_53 : mr211 S P 53 L st sh M c s = (mr211 S P 55 L (.int (nI 30) :: st) sh M c s) := propext (mv_R_iff (i := .bipush 30) (len := 2) (ax := []) (by decide +kernel))
theorem e211_55 {i : Int32} {a : Nat} : mr211 S P 55 L (.int i :: .ref a :: st) sh M c s = (mv_kld sh M a i (mr211 S P) 56 L st c s) := propext (mv_R_iff (i := .iaload) (len := 1) (ax := []) (by decide +kernel))
theorem e211_56 {y : Int32} {x : Int32} : mr211 S P 56 L (.int y :: .int x :: st) sh M c s = (mr211 S P 57 L (.int (x * y) :: st) sh M c s) := propext (mv_R_iff (i := .imul) (len := 1) (ax := []) (by decide +kernel))
theorem e211_57 {y : Int32} {x : Int32} : mr211 S P 57 L (.int y :: .int x :: st) sh M c s = (mr211 S P 58 L (.int (x + y) :: st) sh M c s) := propext (mv_R_iff (i := .iadd) (len := 1) (ax := []) (by decide +kernel))
theorem e211_58 : mr211 S P 58 L st sh M c s = (mr211 S P 59 L (.int (nI 2) :: st) sh M c s) := propext (mv_R_iff (i := .iconst 2) (len := 1) (ax := []) (by decide +kernel))
theorem e211_59 {y : Int32} {x : Int32} : mr211 S P 59 L (.int y :: .int x :: st) sh M c s = (mr211 S P 60 L (.int (x + y) :: st) sh M c s) := propext (mv_R_iff (i := .iadd) (len := 1) (ax := []) (by decide +kernel))
theorem e211_60 : mr211 S P 60 L st sh M c s = (q_isI (q_gv L 1) ∧ mr211 S P 61 L (q_gv L 1 :: st) sh M c s) := (propext (mv_R_iff (i := .iload_n 1) (len := 1) (ax := []) (by decide +kernel))).trans (q_ldI_eq (K := fun st => mr211 S P 61 L st sh M c s))
theorem e211_61 {y : Int32} {x : Int32} : mr211 S P 61 L (.int y :: .int x :: st) sh M c s = (mr211 S P 62 L (.int (x + y) :: st) sh M c s) := propext (mv_R_iff (i := .iadd) (len := 1) (ax := []) (by decide +kernel))
theorem e211_62 {i : Int32} {a : Nat} : mr211 S P 62 L (.int i :: .ref a :: st) sh M c s = (mv_kld sh M a i (mr211 S P) 63 L st c s) := propext (mv_R_iff (i := .iaload) (len := 1) (ax := []) (by decide +kernel))
theorem e211_63 {x : Int32} {i : Int32} {a : Nat} : mr211 S P 63 L (.int x :: .int i :: .ref a :: st) sh M c s = (mv_kst sh M a i x (mr211 S P) 64 L st c s) := propext (mv_R_iff (i := .iastore) (len := 1) (ax := []) (by decide +kernel))
theorem e211_64 : mr211 S P 64 L st sh M c s = ((q_isI (q_gv L 1) ∧ q_hs L 1) ∧ mr211 S P 67 (L.set 1 (some (q_inc (q_gv L 1) (nI 1)))) st sh M c s) := (propext (mv_R_iff (i := .iinc 1 1) (len := 3) (ax := []) (by decide +kernel))).trans (q_inc_eq (K := fun L => mr211 S P 67 L st sh M c s))
theorem e211_67 : mr211 S P 67 L st sh M c s = (mr211 S P 30 L st sh M c s) := propext (mv_R_iff (i := .goto (-37)) (len := 3) (ax := [30]) (by decide +kernel))
theorem e211_70 : mr211 S P 70 L st sh M c s = (q_isA (q_gv L 0) ∧ mr211 S P 71 L (q_gv L 0 :: st) sh M c s) := (propext (mv_R_iff (i := .aload_n 0) (len := 1) (ax := []) (by decide +kernel))).trans (q_ldA_eq (K := fun st => mr211 S P 71 L st sh M c s))
theorem e211_71 {a : Nat} : mr211 S P 71 L (.ref a :: st) sh M c s = (mv_kgf sh M a 5 0 (mr211 S P) 74 L st c s) := propext (mv_R_iff (i := .getfield 7) (len := 3) (ax := [1025, 0, 5, 0]) (by decide +kernel))
theorem e211_74 : mr211 S P 74 L st sh M c s = (mr211 S P 76 L (.int (nI 30) :: st) sh M c s) := propext (mv_R_iff (i := .bipush 30) (len := 2) (ax := []) (by decide +kernel))
theorem e211_76 {i : Int32} {a : Nat} : mr211 S P 76 L (.int i :: .ref a :: st) sh M c s = (mv_kld sh M a i (mr211 S P) 77 L st c s) := propext (mv_R_iff (i := .iaload) (len := 1) (ax := []) (by decide +kernel))
theorem e211_77 {x : Int32} : mr211 S P 77 L [.int x] sh M c s = (mv_nr 0 x ∧ P (some (.int x)) sh M) := propext (mv_R_iff (i := .ireturn) (len := 1) (ax := [0]) (by decide +kernel))
-- 212: TurnedTabletsModel.ways()I
def mk212 : mv_Cd := [
  (0, .aload_n 0, 1, []),
  (1, .invokevirtual 261, 3, [0, 198, 1, 5, 0, 0, 0, 1345, 1347, 100, 119, 1348]),
  (4, .aload_n 0, 1, []),
  (5, .getfield 74, 3, [1062, 0, 5, 37]),
  (8, .aload_n 0, 1, []),
  (9, .invokevirtual 237, 3, [0, 170, 1, 5, 0, 0, 0, 1307, 1309, 97, 119, 1310]),
  (12, .iaload, 1, []),
  (13, .ireturn, 1, [0])]
def mr212 (S : Nat → mv_Sp) (P : mv_Post) : mv_Kt := mv_R mv_DF mk212 S (0, 0) P
theorem e212_0 : mr212 S P 0 L st sh M c s = (q_isA (q_gv L 0) ∧ mr212 S P 1 L (q_gv L 0 :: st) sh M c s) := (propext (mv_R_iff (i := .aload_n 0) (len := 1) (ax := []) (by decide +kernel))).trans (q_ldA_eq (K := fun st => mr212 S P 1 L st sh M c s))
theorem e212_1 {v1 : Value} : mr212 S P 1 L (v1 :: st) sh M c s = (mv_ss st ≤ 8 ∧ c ≤ 0 ∧ s ≤ 0 ∧ mv_isO sh (some v1) 5 ∧ mv_kal S 198 [v1] sh M (mr212 S P) 4 L st c s) := (propext (mv_R_iff (i := .invokevirtual 261) (len := 3) (ax := [0, 198, 1, 5, 0, 0, 0, 1345, 1347, 100, 119, 1348]) (by decide +kernel))).trans (q_call0)
theorem e212_4 : mr212 S P 4 L st sh M c s = (q_isA (q_gv L 0) ∧ mr212 S P 5 L (q_gv L 0 :: st) sh M c s) := (propext (mv_R_iff (i := .aload_n 0) (len := 1) (ax := []) (by decide +kernel))).trans (q_ldA_eq (K := fun st => mr212 S P 5 L st sh M c s))
theorem e212_5 {a : Nat} : mr212 S P 5 L (.ref a :: st) sh M c s = (mv_kgf sh M a 5 37 (mr212 S P) 8 L st c s) := propext (mv_R_iff (i := .getfield 74) (len := 3) (ax := [1062, 0, 5, 37]) (by decide +kernel))
theorem e212_8 : mr212 S P 8 L st sh M c s = (q_isA (q_gv L 0) ∧ mr212 S P 9 L (q_gv L 0 :: st) sh M c s) := (propext (mv_R_iff (i := .aload_n 0) (len := 1) (ax := []) (by decide +kernel))).trans (q_ldA_eq (K := fun st => mr212 S P 9 L st sh M c s))
theorem e212_9 {v1 : Value} : mr212 S P 9 L (v1 :: st) sh M c s = (mv_ss st ≤ 8 ∧ c ≤ 0 ∧ s ≤ 0 ∧ mv_isO sh (some v1) 5 ∧ mv_kal S 170 [v1] sh M (mr212 S P) 12 L st c s) := (propext (mv_R_iff (i := .invokevirtual 237) (len := 3) (ax := [0, 170, 1, 5, 0, 0, 0, 1307, 1309, 97, 119, 1310]) (by decide +kernel))).trans (q_call0)
theorem e212_12 {i : Int32} {a : Nat} : mr212 S P 12 L (.int i :: .ref a :: st) sh M c s = (mv_kld sh M a i (mr212 S P) 13 L st c s) := propext (mv_R_iff (i := .iaload) (len := 1) (ax := []) (by decide +kernel))
theorem e212_13 {x : Int32} : mr212 S P 13 L [.int x] sh M c s = (mv_nr 0 x ∧ P (some (.int x)) sh M) := propext (mv_R_iff (i := .ireturn) (len := 1) (ax := [0]) (by decide +kernel))
-- 213: TurnedTabletsModel.weave(II)I
def mk213 : mv_Cd := [
  (0, .aload_n 0, 1, []),
  (1, .iload_n 1, 1, []),
  (2, .invokevirtual 202, 3, [0, 193, 2, 5, 0, 0, 0, 1180, 1182, 81, 119, 1183]),
  (5, .ifCond .eq 10, 3, [15]),
  (8, .iload_n 2, 1, []),
  (9, .invokestatic 209, 3, [3, 194, 1, 0, 0, 0, 0, 1208, 1209, 119, 1210]),
  (12, .ifCond .ne 5, 3, [17]),
  (15, .iconst (-1), 1, []),
  (16, .ireturn, 1, [0]),
  (17, .aload_n 0, 1, []),
  (18, .getfield 7, 3, [1025, 0, 5, 0]),
  (21, .bipush 30, 2, []),
  (23, .iaload, 1, []),
  (24, .bipush 24, 2, []),
  (26, .if_icmp .ne 6, 3, [32]),
  (29, .bipush (-3), 2, []),
  (31, .ireturn, 1, [0]),
  (32, .aload_n 0, 1, []),
  (33, .invokevirtual 212, 3, [0, 157, 1, 5, 0, 0, 0, 1211, 1213, 84, 119, 1214]),
  (36, .aload_n 0, 1, []),
  (37, .iconst 0, 1, []),
  (38, .iload_n 1, 1, []),
  (39, .iload_n 2, 1, []),
  (40, .invokevirtual 215, 3, [0, 165, 4, 5, 0, 0, 0, 1219, 1221, 86, 119, 1222]),
  (43, .pop, 1, []),
  (44, .aload_n 0, 1, []),
  (45, .iconst 0, 1, []),
  (46, .invokevirtual 190, 3, [0, 162, 2, 5, 0, 0, 0, 1192, 1194, 82, 119, 1195]),
  (49, .ireturn, 1, [0])]
def mr213 (S : Nat → mv_Sp) (P : mv_Post) : mv_Kt := mv_R mv_DF mk213 S (0, 0) P
theorem e213_0 : mr213 S P 0 L st sh M c s = (q_isA (q_gv L 0) ∧ mr213 S P 1 L (q_gv L 0 :: st) sh M c s) := (propext (mv_R_iff (i := .aload_n 0) (len := 1) (ax := []) (by decide +kernel))).trans (q_ldA_eq (K := fun st => mr213 S P 1 L st sh M c s))
theorem e213_1 : mr213 S P 1 L st sh M c s = (q_isI (q_gv L 1) ∧ mr213 S P 2 L (q_gv L 1 :: st) sh M c s) := (propext (mv_R_iff (i := .iload_n 1) (len := 1) (ax := []) (by decide +kernel))).trans (q_ldI_eq (K := fun st => mr213 S P 2 L st sh M c s))
theorem e213_2 {v2 : Value} {v1 : Value} : mr213 S P 2 L (v2 :: v1 :: st) sh M c s = (mv_ss st ≤ 8 ∧ c ≤ 0 ∧ s ≤ 0 ∧ mv_isO sh (some v1) 5 ∧ mv_kal S 193 [v1, v2] sh M (mr213 S P) 5 L st c s) := (propext (mv_R_iff (i := .invokevirtual 202) (len := 3) (ax := [0, 193, 2, 5, 0, 0, 0, 1180, 1182, 81, 119, 1183]) (by decide +kernel))).trans (q_call0)
theorem e213_5 {x : Int32} : mr213 S P 5 L (.int x :: st) sh M c s = (if x = nI 0 then mr213 S P 15 L st sh M c s else mr213 S P 8 L st sh M c s) := (propext (mv_R_iff (i := .ifCond .eq 10) (len := 3) (ax := [15]) (by decide +kernel))).trans (q_br)
theorem e213_8 : mr213 S P 8 L st sh M c s = (q_isI (q_gv L 2) ∧ mr213 S P 9 L (q_gv L 2 :: st) sh M c s) := (propext (mv_R_iff (i := .iload_n 2) (len := 1) (ax := []) (by decide +kernel))).trans (q_ldI_eq (K := fun st => mr213 S P 9 L st sh M c s))
theorem e213_9 {v1 : Value} : mr213 S P 9 L (v1 :: st) sh M c s = (mv_ss st ≤ 8 ∧ c ≤ 0 ∧ s ≤ 0 ∧ True ∧ mv_kal S 194 [v1] sh M (mr213 S P) 12 L st c s) := (propext (mv_R_iff (i := .invokestatic 209) (len := 3) (ax := [3, 194, 1, 0, 0, 0, 0, 1208, 1209, 119, 1210]) (by decide +kernel))).trans (q_call3)
theorem e213_12 {x : Int32} : mr213 S P 12 L (.int x :: st) sh M c s = (if x = nI 0 then mr213 S P 15 L st sh M c s else mr213 S P 17 L st sh M c s) := (propext (mv_R_iff (i := .ifCond .ne 5) (len := 3) (ax := [17]) (by decide +kernel))).trans (q_br')
theorem e213_15 : mr213 S P 15 L st sh M c s = (mr213 S P 16 L (.int (Int32.ofInt (-1)) :: st) sh M c s) := propext (mv_R_iff (i := .iconst (-1)) (len := 1) (ax := []) (by decide +kernel))
theorem e213_16 {x : Int32} : mr213 S P 16 L [.int x] sh M c s = (mv_nr 0 x ∧ P (some (.int x)) sh M) := propext (mv_R_iff (i := .ireturn) (len := 1) (ax := [0]) (by decide +kernel))
theorem e213_17 : mr213 S P 17 L st sh M c s = (q_isA (q_gv L 0) ∧ mr213 S P 18 L (q_gv L 0 :: st) sh M c s) := (propext (mv_R_iff (i := .aload_n 0) (len := 1) (ax := []) (by decide +kernel))).trans (q_ldA_eq (K := fun st => mr213 S P 18 L st sh M c s))
theorem e213_18 {a : Nat} : mr213 S P 18 L (.ref a :: st) sh M c s = (mv_kgf sh M a 5 0 (mr213 S P) 21 L st c s) := propext (mv_R_iff (i := .getfield 7) (len := 3) (ax := [1025, 0, 5, 0]) (by decide +kernel))
theorem e213_21 : mr213 S P 21 L st sh M c s = (mr213 S P 23 L (.int (nI 30) :: st) sh M c s) := propext (mv_R_iff (i := .bipush 30) (len := 2) (ax := []) (by decide +kernel))
theorem e213_23 {i : Int32} {a : Nat} : mr213 S P 23 L (.int i :: .ref a :: st) sh M c s = (mv_kld sh M a i (mr213 S P) 24 L st c s) := propext (mv_R_iff (i := .iaload) (len := 1) (ax := []) (by decide +kernel))
theorem e213_24 : mr213 S P 24 L st sh M c s = (mr213 S P 26 L (.int (nI 24) :: st) sh M c s) := propext (mv_R_iff (i := .bipush 24) (len := 2) (ax := []) (by decide +kernel))
theorem e213_26 {y : Int32} {x : Int32} : mr213 S P 26 L (.int y :: .int x :: st) sh M c s = (if x = y then mr213 S P 29 L st sh M c s else mr213 S P 32 L st sh M c s) := (propext (mv_R_iff (i := .if_icmp .ne 6) (len := 3) (ax := [32]) (by decide +kernel))).trans (q_br')
theorem e213_29 : mr213 S P 29 L st sh M c s = (mr213 S P 31 L (.int (Int32.ofInt (-3)) :: st) sh M c s) := (propext (mv_R_iff (i := .bipush (-3)) (len := 2) (ax := []) (by decide +kernel))).trans (congrArg (fun z => mr213 S P 31 L (.int z :: st) sh M c s) (by decide : (Int8.ofInt (-3)).toInt32 = Int32.ofInt (-3)))
theorem e213_31 {x : Int32} : mr213 S P 31 L [.int x] sh M c s = (mv_nr 0 x ∧ P (some (.int x)) sh M) := propext (mv_R_iff (i := .ireturn) (len := 1) (ax := [0]) (by decide +kernel))
theorem e213_32 : mr213 S P 32 L st sh M c s = (q_isA (q_gv L 0) ∧ mr213 S P 33 L (q_gv L 0 :: st) sh M c s) := (propext (mv_R_iff (i := .aload_n 0) (len := 1) (ax := []) (by decide +kernel))).trans (q_ldA_eq (K := fun st => mr213 S P 33 L st sh M c s))
theorem e213_33 {v1 : Value} : mr213 S P 33 L (v1 :: st) sh M c s = (mv_ss st ≤ 8 ∧ c ≤ 0 ∧ s ≤ 0 ∧ mv_isO sh (some v1) 5 ∧ mv_kal S 157 [v1] sh M (mr213 S P) 36 L st c s) := (propext (mv_R_iff (i := .invokevirtual 212) (len := 3) (ax := [0, 157, 1, 5, 0, 0, 0, 1211, 1213, 84, 119, 1214]) (by decide +kernel))).trans (q_call0)
theorem e213_36 : mr213 S P 36 L st sh M c s = (q_isA (q_gv L 0) ∧ mr213 S P 37 L (q_gv L 0 :: st) sh M c s) := (propext (mv_R_iff (i := .aload_n 0) (len := 1) (ax := []) (by decide +kernel))).trans (q_ldA_eq (K := fun st => mr213 S P 37 L st sh M c s))
theorem e213_37 : mr213 S P 37 L st sh M c s = (mr213 S P 38 L (.int (nI 0) :: st) sh M c s) := propext (mv_R_iff (i := .iconst 0) (len := 1) (ax := []) (by decide +kernel))
theorem e213_38 : mr213 S P 38 L st sh M c s = (q_isI (q_gv L 1) ∧ mr213 S P 39 L (q_gv L 1 :: st) sh M c s) := (propext (mv_R_iff (i := .iload_n 1) (len := 1) (ax := []) (by decide +kernel))).trans (q_ldI_eq (K := fun st => mr213 S P 39 L st sh M c s))
theorem e213_39 : mr213 S P 39 L st sh M c s = (q_isI (q_gv L 2) ∧ mr213 S P 40 L (q_gv L 2 :: st) sh M c s) := (propext (mv_R_iff (i := .iload_n 2) (len := 1) (ax := []) (by decide +kernel))).trans (q_ldI_eq (K := fun st => mr213 S P 40 L st sh M c s))
theorem e213_40 {v4 : Value} {v3 : Value} {v2 : Value} {v1 : Value} : mr213 S P 40 L (v4 :: v3 :: v2 :: v1 :: st) sh M c s = (mv_ss st ≤ 8 ∧ c ≤ 0 ∧ s ≤ 0 ∧ mv_isO sh (some v1) 5 ∧ mv_kal S 165 [v1, v2, v3, v4] sh M (mr213 S P) 43 L st c s) := (propext (mv_R_iff (i := .invokevirtual 215) (len := 3) (ax := [0, 165, 4, 5, 0, 0, 0, 1219, 1221, 86, 119, 1222]) (by decide +kernel))).trans (q_call0)
theorem e213_43 {x : Int32} : mr213 S P 43 L (.int x :: st) sh M c s = (mr213 S P 44 L st sh M c s) := propext (mv_R_iff (i := .pop) (len := 1) (ax := []) (by decide +kernel))
theorem e213_43r {x : Nat} : mr213 S P 43 L (.ref x :: st) sh M c s = (mr213 S P 44 L st sh M c s) := propext (mv_R_iff (i := .pop) (len := 1) (ax := []) (by decide +kernel))
theorem e213_44 : mr213 S P 44 L st sh M c s = (q_isA (q_gv L 0) ∧ mr213 S P 45 L (q_gv L 0 :: st) sh M c s) := (propext (mv_R_iff (i := .aload_n 0) (len := 1) (ax := []) (by decide +kernel))).trans (q_ldA_eq (K := fun st => mr213 S P 45 L st sh M c s))
theorem e213_45 : mr213 S P 45 L st sh M c s = (mr213 S P 46 L (.int (nI 0) :: st) sh M c s) := propext (mv_R_iff (i := .iconst 0) (len := 1) (ax := []) (by decide +kernel))
theorem e213_46 {v2 : Value} {v1 : Value} : mr213 S P 46 L (v2 :: v1 :: st) sh M c s = (mv_ss st ≤ 8 ∧ c ≤ 0 ∧ s ≤ 0 ∧ mv_isO sh (some v1) 5 ∧ mv_kal S 162 [v1, v2] sh M (mr213 S P) 49 L st c s) := (propext (mv_R_iff (i := .invokevirtual 190) (len := 3) (ax := [0, 162, 2, 5, 0, 0, 0, 1192, 1194, 82, 119, 1195]) (by decide +kernel))).trans (q_call0)
theorem e213_49 {x : Int32} : mr213 S P 49 L [.int x] sh M c s = (mv_nr 0 x ∧ P (some (.int x)) sh M) := propext (mv_R_iff (i := .ireturn) (len := 1) (ax := [0]) (by decide +kernel))
-- 214: TurnedTabletsModel.wipe()I
def mk214 : mv_Cd := [
  (0, .aload_n 0, 1, []),
  (1, .getfield 80, 3, [1038, 0, 5, 13]),
  (4, .istore_n 1, 1, []),
  (5, .aload_n 0, 1, []),
  (6, .iconst 0, 1, []),
  (7, .putfield 80, 3, [1038, 0, 5, 13, 0]),
  (10, .iload_n 1, 1, []),
  (11, .ireturn, 1, [0])]
def mr214 (S : Nat → mv_Sp) (P : mv_Post) : mv_Kt := mv_R mv_DF mk214 S (0, 0) P
theorem e214_0 : mr214 S P 0 L st sh M c s = (q_isA (q_gv L 0) ∧ mr214 S P 1 L (q_gv L 0 :: st) sh M c s) := (propext (mv_R_iff (i := .aload_n 0) (len := 1) (ax := []) (by decide +kernel))).trans (q_ldA_eq (K := fun st => mr214 S P 1 L st sh M c s))
theorem e214_1 {a : Nat} : mr214 S P 1 L (.ref a :: st) sh M c s = (mv_kgf sh M a 5 13 (mr214 S P) 4 L st c s) := propext (mv_R_iff (i := .getfield 80) (len := 3) (ax := [1038, 0, 5, 13]) (by decide +kernel))
theorem e214_4 {x : Int32} : mr214 S P 4 L (.int x :: st) sh M c s = (q_hs L 1 ∧ mr214 S P 5 (L.set 1 (some (.int x))) st sh M c s) := (propext (mv_R_iff (i := .istore_n 1) (len := 1) (ax := []) (by decide +kernel))).trans (q_st_eq (K := fun L => mr214 S P 5 L st sh M c s))
theorem e214_5 : mr214 S P 5 L st sh M c s = (q_isA (q_gv L 0) ∧ mr214 S P 6 L (q_gv L 0 :: st) sh M c s) := (propext (mv_R_iff (i := .aload_n 0) (len := 1) (ax := []) (by decide +kernel))).trans (q_ldA_eq (K := fun st => mr214 S P 6 L st sh M c s))
theorem e214_6 : mr214 S P 6 L st sh M c s = (mr214 S P 7 L (.int (nI 0) :: st) sh M c s) := propext (mv_R_iff (i := .iconst 0) (len := 1) (ax := []) (by decide +kernel))
theorem e214_7 {x : Int32} {a : Nat} : mr214 S P 7 L (.int x :: .ref a :: st) sh M c s = (True ∧ mv_kpf sh M a 5 13 x (mr214 S P) 10 L st c s) := propext (mv_R_iff (i := .putfield 80) (len := 3) (ax := [1038, 0, 5, 13, 0]) (by decide +kernel))
theorem e214_10 : mr214 S P 10 L st sh M c s = (q_isI (q_gv L 1) ∧ mr214 S P 11 L (q_gv L 1 :: st) sh M c s) := (propext (mv_R_iff (i := .iload_n 1) (len := 1) (ax := []) (by decide +kernel))).trans (q_ldI_eq (K := fun st => mr214 S P 11 L st sh M c s))
theorem e214_11 {x : Int32} : mr214 S P 11 L [.int x] sh M c s = (mv_nr 0 x ∧ P (some (.int x)) sh M) := propext (mv_R_iff (i := .ireturn) (len := 1) (ax := [0]) (by decide +kernel))
-- 215: TurnedTabletsModel.write(I)I
def mk215 : mv_Cd := [
  (0, .iload_n 1, 1, []),
  (1, .i2l, 1, []),
  (2, .ldc2_w 88, 3, [1148, 32]),
  (5, .ldc2_w 90, 3, [1149, 126]),
  (8, .invokestatic 92, 3, [3, 144, 3, 0, 0, 0, 0, 1007, 1008, 119, 1009]),
  (11, .ifCond .ne 5, 3, [16]),
  (14, .iconst (-1), 1, []),
  (15, .ireturn, 1, [0]),
  (16, .aload_n 0, 1, []),
  (17, .getfield 80, 3, [1038, 0, 5, 13]),
  (20, .sipush 200, 3, []),
  (23, .if_icmp .ne 6, 3, [29]),
  (26, .bipush (-3), 2, []),
  (28, .ireturn, 1, [0]),
  (29, .aload_n 0, 1, []),
  (30, .getfield 28, 3, [1037, 0, 5, 12]),
  (33, .aload_n 0, 1, []),
  (34, .getfield 80, 3, [1038, 0, 5, 13]),
  (37, .iload_n 1, 1, []),
  (38, .iastore, 1, []),
  (39, .aload_n 0, 1, []),
  (40, .dup, 1, []),
  (41, .getfield 80, 3, [1038, 0, 5, 13]),
  (44, .iconst 1, 1, []),
  (45, .iadd, 1, []),
  (46, .putfield 80, 3, [1038, 0, 5, 13, 0]),
  (49, .aload_n 0, 1, []),
  (50, .getfield 80, 3, [1038, 0, 5, 13]),
  (53, .ireturn, 1, [0])]
def mr215 (S : Nat → mv_Sp) (P : mv_Post) : mv_Kt := mv_R mv_DF mk215 S (0, 0) P
theorem e215_0 : mr215 S P 0 L st sh M c s = (q_isI (q_gv L 1) ∧ mr215 S P 1 L (q_gv L 1 :: st) sh M c s) := (propext (mv_R_iff (i := .iload_n 1) (len := 1) (ax := []) (by decide +kernel))).trans (q_ldI_eq (K := fun st => mr215 S P 1 L st sh M c s))
theorem e215_1 {x : Int32} : mr215 S P 1 L (.int x :: st) sh M c s = (mr215 S P 2 L (.long x.toInt64 :: st) sh M c s) := propext (mv_R_iff (i := .i2l) (len := 1) (ax := []) (by decide +kernel))
theorem e215_2 : mr215 S P 2 L st sh M c s = (mr215 S P 5 L (.long (lN 32) :: st) sh M c s) := propext (mv_R_iff (i := .ldc2_w 88) (len := 3) (ax := [1148, 32]) (by decide +kernel))
theorem e215_5 : mr215 S P 5 L st sh M c s = (mr215 S P 8 L (.long (lN 126) :: st) sh M c s) := propext (mv_R_iff (i := .ldc2_w 90) (len := 3) (ax := [1149, 126]) (by decide +kernel))
theorem e215_8 {v3 : Value} {v2 : Value} {v1 : Value} : mr215 S P 8 L (v3 :: v2 :: v1 :: st) sh M c s = (mv_ss st ≤ 8 ∧ c ≤ 0 ∧ s ≤ 0 ∧ True ∧ mv_kal S 144 [v1, v2, v3] sh M (mr215 S P) 11 L st c s) := (propext (mv_R_iff (i := .invokestatic 92) (len := 3) (ax := [3, 144, 3, 0, 0, 0, 0, 1007, 1008, 119, 1009]) (by decide +kernel))).trans (q_call3)
theorem e215_11 {x : Int32} : mr215 S P 11 L (.int x :: st) sh M c s = (if x = nI 0 then mr215 S P 14 L st sh M c s else mr215 S P 16 L st sh M c s) := (propext (mv_R_iff (i := .ifCond .ne 5) (len := 3) (ax := [16]) (by decide +kernel))).trans (q_br')
theorem e215_14 : mr215 S P 14 L st sh M c s = (mr215 S P 15 L (.int (Int32.ofInt (-1)) :: st) sh M c s) := propext (mv_R_iff (i := .iconst (-1)) (len := 1) (ax := []) (by decide +kernel))
theorem e215_15 {x : Int32} : mr215 S P 15 L [.int x] sh M c s = (mv_nr 0 x ∧ P (some (.int x)) sh M) := propext (mv_R_iff (i := .ireturn) (len := 1) (ax := [0]) (by decide +kernel))
theorem e215_16 : mr215 S P 16 L st sh M c s = (q_isA (q_gv L 0) ∧ mr215 S P 17 L (q_gv L 0 :: st) sh M c s) := (propext (mv_R_iff (i := .aload_n 0) (len := 1) (ax := []) (by decide +kernel))).trans (q_ldA_eq (K := fun st => mr215 S P 17 L st sh M c s))
theorem e215_17 {a : Nat} : mr215 S P 17 L (.ref a :: st) sh M c s = (mv_kgf sh M a 5 13 (mr215 S P) 20 L st c s) := propext (mv_R_iff (i := .getfield 80) (len := 3) (ax := [1038, 0, 5, 13]) (by decide +kernel))
theorem e215_20 : mr215 S P 20 L st sh M c s = (mr215 S P 23 L (.int (nI 200) :: st) sh M c s) := propext (mv_R_iff (i := .sipush 200) (len := 3) (ax := []) (by decide +kernel))
theorem e215_23 {y : Int32} {x : Int32} : mr215 S P 23 L (.int y :: .int x :: st) sh M c s = (if x = y then mr215 S P 26 L st sh M c s else mr215 S P 29 L st sh M c s) := (propext (mv_R_iff (i := .if_icmp .ne 6) (len := 3) (ax := [29]) (by decide +kernel))).trans (q_br')
theorem e215_26 : mr215 S P 26 L st sh M c s = (mr215 S P 28 L (.int (Int32.ofInt (-3)) :: st) sh M c s) := (propext (mv_R_iff (i := .bipush (-3)) (len := 2) (ax := []) (by decide +kernel))).trans (congrArg (fun z => mr215 S P 28 L (.int z :: st) sh M c s) (by decide : (Int8.ofInt (-3)).toInt32 = Int32.ofInt (-3)))
theorem e215_28 {x : Int32} : mr215 S P 28 L [.int x] sh M c s = (mv_nr 0 x ∧ P (some (.int x)) sh M) := propext (mv_R_iff (i := .ireturn) (len := 1) (ax := [0]) (by decide +kernel))
theorem e215_29 : mr215 S P 29 L st sh M c s = (q_isA (q_gv L 0) ∧ mr215 S P 30 L (q_gv L 0 :: st) sh M c s) := (propext (mv_R_iff (i := .aload_n 0) (len := 1) (ax := []) (by decide +kernel))).trans (q_ldA_eq (K := fun st => mr215 S P 30 L st sh M c s))
theorem e215_30 {a : Nat} : mr215 S P 30 L (.ref a :: st) sh M c s = (mv_kgf sh M a 5 12 (mr215 S P) 33 L st c s) := propext (mv_R_iff (i := .getfield 28) (len := 3) (ax := [1037, 0, 5, 12]) (by decide +kernel))
theorem e215_33 : mr215 S P 33 L st sh M c s = (q_isA (q_gv L 0) ∧ mr215 S P 34 L (q_gv L 0 :: st) sh M c s) := (propext (mv_R_iff (i := .aload_n 0) (len := 1) (ax := []) (by decide +kernel))).trans (q_ldA_eq (K := fun st => mr215 S P 34 L st sh M c s))
theorem e215_34 {a : Nat} : mr215 S P 34 L (.ref a :: st) sh M c s = (mv_kgf sh M a 5 13 (mr215 S P) 37 L st c s) := propext (mv_R_iff (i := .getfield 80) (len := 3) (ax := [1038, 0, 5, 13]) (by decide +kernel))
theorem e215_37 : mr215 S P 37 L st sh M c s = (q_isI (q_gv L 1) ∧ mr215 S P 38 L (q_gv L 1 :: st) sh M c s) := (propext (mv_R_iff (i := .iload_n 1) (len := 1) (ax := []) (by decide +kernel))).trans (q_ldI_eq (K := fun st => mr215 S P 38 L st sh M c s))
theorem e215_38 {x : Int32} {i : Int32} {a : Nat} : mr215 S P 38 L (.int x :: .int i :: .ref a :: st) sh M c s = (mv_kst sh M a i x (mr215 S P) 39 L st c s) := propext (mv_R_iff (i := .iastore) (len := 1) (ax := []) (by decide +kernel))
theorem e215_39 : mr215 S P 39 L st sh M c s = (q_isA (q_gv L 0) ∧ mr215 S P 40 L (q_gv L 0 :: st) sh M c s) := (propext (mv_R_iff (i := .aload_n 0) (len := 1) (ax := []) (by decide +kernel))).trans (q_ldA_eq (K := fun st => mr215 S P 40 L st sh M c s))
theorem e215_40 {x : Int32} : mr215 S P 40 L (.int x :: st) sh M c s = (mr215 S P 41 L (.int x :: .int x :: st) sh M c s) := propext (mv_R_iff (i := .dup) (len := 1) (ax := []) (by decide +kernel))
theorem e215_40r {x : Nat} : mr215 S P 40 L (.ref x :: st) sh M c s = (mr215 S P 41 L (.ref x :: .ref x :: st) sh M c s) := propext (mv_R_iff (i := .dup) (len := 1) (ax := []) (by decide +kernel))
theorem e215_41 {a : Nat} : mr215 S P 41 L (.ref a :: st) sh M c s = (mv_kgf sh M a 5 13 (mr215 S P) 44 L st c s) := propext (mv_R_iff (i := .getfield 80) (len := 3) (ax := [1038, 0, 5, 13]) (by decide +kernel))
theorem e215_44 : mr215 S P 44 L st sh M c s = (mr215 S P 45 L (.int (nI 1) :: st) sh M c s) := propext (mv_R_iff (i := .iconst 1) (len := 1) (ax := []) (by decide +kernel))
theorem e215_45 {y : Int32} {x : Int32} : mr215 S P 45 L (.int y :: .int x :: st) sh M c s = (mr215 S P 46 L (.int (x + y) :: st) sh M c s) := propext (mv_R_iff (i := .iadd) (len := 1) (ax := []) (by decide +kernel))
theorem e215_46 {x : Int32} {a : Nat} : mr215 S P 46 L (.int x :: .ref a :: st) sh M c s = (True ∧ mv_kpf sh M a 5 13 x (mr215 S P) 49 L st c s) := propext (mv_R_iff (i := .putfield 80) (len := 3) (ax := [1038, 0, 5, 13, 0]) (by decide +kernel))
theorem e215_49 : mr215 S P 49 L st sh M c s = (q_isA (q_gv L 0) ∧ mr215 S P 50 L (q_gv L 0 :: st) sh M c s) := (propext (mv_R_iff (i := .aload_n 0) (len := 1) (ax := []) (by decide +kernel))).trans (q_ldA_eq (K := fun st => mr215 S P 50 L st sh M c s))
theorem e215_50 {a : Nat} : mr215 S P 50 L (.ref a :: st) sh M c s = (mv_kgf sh M a 5 13 (mr215 S P) 53 L st c s) := propext (mv_R_iff (i := .getfield 80) (len := 3) (ax := [1038, 0, 5, 13]) (by decide +kernel))
theorem e215_53 {x : Int32} : mr215 S P 53 L [.int x] sh M c s = (mv_nr 0 x ∧ P (some (.int x)) sh M) := propext (mv_R_iff (i := .ireturn) (len := 1) (ax := [0]) (by decide +kernel))
end CD
