/-! code lists and step rows, written by program -/
section CD
variable {S : Nat → mv_Sp} {P : mv_Post} {L : mv_Loc} {st : List Value} {sh : mv_Shp} {M : mv_Mem} {c s : Nat}
-- 158: TurnedTabletsModel.quarters(II)I
def mk158 : mv_Cd := [
  (0, .aload_n 0, 1, []),
  (1, .getfield 13, 3, [1029, 0, 5, 4]),
  (4, .iload_n 1, 1, []),
  (5, .iaload, 1, []),
  (6, .tableswitch 57 1 3 #[26, 37, 47], 26, [63, 32, 43, 53]),
  (32, .iload_n 2, 1, []),
  (33, .ifCond .ne 7, 3, [40]),
  (36, .iconst 2, 1, []),
  (37, .goto 5, 3, [42]),
  (40, .bipush (-2), 2, []),
  (42, .ireturn, 1, [0]),
  (43, .iload_n 2, 1, []),
  (44, .ifCond .ne 7, 3, [51]),
  (47, .iconst (-1), 1, []),
  (48, .goto 4, 3, [52]),
  (51, .iconst 1, 1, []),
  (52, .ireturn, 1, [0]),
  (53, .iload_n 2, 1, []),
  (54, .ifCond .ne 7, 3, [61]),
  (57, .iconst 1, 1, []),
  (58, .goto 4, 3, [62]),
  (61, .iconst 0, 1, []),
  (62, .ireturn, 1, [0]),
  (63, .iload_n 2, 1, []),
  (64, .ifCond .ne 7, 3, [71]),
  (67, .iconst 1, 1, []),
  (68, .goto 4, 3, [72]),
  (71, .iconst (-1), 1, []),
  (72, .ireturn, 1, [0])]
def mr158 (S : Nat → mv_Sp) (P : mv_Post) : mv_Kt := mv_R mv_DF mk158 S (0, 0) P
theorem e158_0 : mr158 S P 0 L st sh M c s = (q_isA (q_gv L 0) ∧ mr158 S P 1 L (q_gv L 0 :: st) sh M c s) := (propext (mv_R_iff (i := .aload_n 0) (len := 1) (ax := []) (by decide +kernel))).trans (q_ldA_eq (K := fun st => mr158 S P 1 L st sh M c s))
theorem e158_1 {a : Nat} : mr158 S P 1 L (.ref a :: st) sh M c s = (mv_kgf sh M a 5 4 (mr158 S P) 4 L st c s) := propext (mv_R_iff (i := .getfield 13) (len := 3) (ax := [1029, 0, 5, 4]) (by decide +kernel))
theorem e158_4 : mr158 S P 4 L st sh M c s = (q_isI (q_gv L 1) ∧ mr158 S P 5 L (q_gv L 1 :: st) sh M c s) := (propext (mv_R_iff (i := .iload_n 1) (len := 1) (ax := []) (by decide +kernel))).trans (q_ldI_eq (K := fun st => mr158 S P 5 L st sh M c s))
theorem e158_5 {i : Int32} {a : Nat} : mr158 S P 5 L (.int i :: .ref a :: st) sh M c s = (mv_kld sh M a i (mr158 S P) 6 L st c s) := propext (mv_R_iff (i := .iaload) (len := 1) (ax := []) (by decide +kernel))
theorem e158_6 {x : Int32} : mr158 S P 6 L (.int x :: st) sh M c s = (if x = (nI 1) then mr158 S P 32 L st sh M c s else if x = (nI 2) then mr158 S P 43 L st sh M c s else if x = (nI 3) then mr158 S P 53 L st sh M c s else mr158 S P 63 L st sh M c s) := (propext (mv_R_iff (i := .tableswitch 57 1 3 #[26, 37, 47]) (len := 26) (ax := [63, 32, 43, 53]) (by decide +kernel))).trans (q_sw3)
theorem e158_32 : mr158 S P 32 L st sh M c s = (q_isI (q_gv L 2) ∧ mr158 S P 33 L (q_gv L 2 :: st) sh M c s) := (propext (mv_R_iff (i := .iload_n 2) (len := 1) (ax := []) (by decide +kernel))).trans (q_ldI_eq (K := fun st => mr158 S P 33 L st sh M c s))
theorem e158_33 {x : Int32} : mr158 S P 33 L (.int x :: st) sh M c s = (if x = nI 0 then mr158 S P 36 L st sh M c s else mr158 S P 40 L st sh M c s) := (propext (mv_R_iff (i := .ifCond .ne 7) (len := 3) (ax := [40]) (by decide +kernel))).trans (q_br')
theorem e158_36 : mr158 S P 36 L st sh M c s = (mr158 S P 37 L (.int (nI 2) :: st) sh M c s) := propext (mv_R_iff (i := .iconst 2) (len := 1) (ax := []) (by decide +kernel))
theorem e158_37 : mr158 S P 37 L st sh M c s = (mr158 S P 42 L st sh M c s) := propext (mv_R_iff (i := .goto 5) (len := 3) (ax := [42]) (by decide +kernel))
theorem e158_40 : mr158 S P 40 L st sh M c s = (mr158 S P 42 L (.int (Int32.ofInt (-2)) :: st) sh M c s) := (propext (mv_R_iff (i := .bipush (-2)) (len := 2) (ax := []) (by decide +kernel))).trans (congrArg (fun z => mr158 S P 42 L (.int z :: st) sh M c s) (by decide : (Int8.ofInt (-2)).toInt32 = Int32.ofInt (-2)))
theorem e158_42 {x : Int32} : mr158 S P 42 L [.int x] sh M c s = (mv_nr 0 x ∧ P (some (.int x)) sh M) := propext (mv_R_iff (i := .ireturn) (len := 1) (ax := [0]) (by decide +kernel))
theorem e158_43 : mr158 S P 43 L st sh M c s = (q_isI (q_gv L 2) ∧ mr158 S P 44 L (q_gv L 2 :: st) sh M c s) := (propext (mv_R_iff (i := .iload_n 2) (len := 1) (ax := []) (by decide +kernel))).trans (q_ldI_eq (K := fun st => mr158 S P 44 L st sh M c s))
theorem e158_44 {x : Int32} : mr158 S P 44 L (.int x :: st) sh M c s = (if x = nI 0 then mr158 S P 47 L st sh M c s else mr158 S P 51 L st sh M c s) := (propext (mv_R_iff (i := .ifCond .ne 7) (len := 3) (ax := [51]) (by decide +kernel))).trans (q_br')
theorem e158_47 : mr158 S P 47 L st sh M c s = (mr158 S P 48 L (.int (Int32.ofInt (-1)) :: st) sh M c s) := propext (mv_R_iff (i := .iconst (-1)) (len := 1) (ax := []) (by decide +kernel))
theorem e158_48 : mr158 S P 48 L st sh M c s = (mr158 S P 52 L st sh M c s) := propext (mv_R_iff (i := .goto 4) (len := 3) (ax := [52]) (by decide +kernel))
theorem e158_51 : mr158 S P 51 L st sh M c s = (mr158 S P 52 L (.int (nI 1) :: st) sh M c s) := propext (mv_R_iff (i := .iconst 1) (len := 1) (ax := []) (by decide +kernel))
theorem e158_52 {x : Int32} : mr158 S P 52 L [.int x] sh M c s = (mv_nr 0 x ∧ P (some (.int x)) sh M) := propext (mv_R_iff (i := .ireturn) (len := 1) (ax := [0]) (by decide +kernel))
theorem e158_53 : mr158 S P 53 L st sh M c s = (q_isI (q_gv L 2) ∧ mr158 S P 54 L (q_gv L 2 :: st) sh M c s) := (propext (mv_R_iff (i := .iload_n 2) (len := 1) (ax := []) (by decide +kernel))).trans (q_ldI_eq (K := fun st => mr158 S P 54 L st sh M c s))
theorem e158_54 {x : Int32} : mr158 S P 54 L (.int x :: st) sh M c s = (if x = nI 0 then mr158 S P 57 L st sh M c s else mr158 S P 61 L st sh M c s) := (propext (mv_R_iff (i := .ifCond .ne 7) (len := 3) (ax := [61]) (by decide +kernel))).trans (q_br')
theorem e158_57 : mr158 S P 57 L st sh M c s = (mr158 S P 58 L (.int (nI 1) :: st) sh M c s) := propext (mv_R_iff (i := .iconst 1) (len := 1) (ax := []) (by decide +kernel))
theorem e158_58 : mr158 S P 58 L st sh M c s = (mr158 S P 62 L st sh M c s) := propext (mv_R_iff (i := .goto 4) (len := 3) (ax := [62]) (by decide +kernel))
theorem e158_61 : mr158 S P 61 L st sh M c s = (mr158 S P 62 L (.int (nI 0) :: st) sh M c s) := propext (mv_R_iff (i := .iconst 0) (len := 1) (ax := []) (by decide +kernel))
theorem e158_62 {x : Int32} : mr158 S P 62 L [.int x] sh M c s = (mv_nr 0 x ∧ P (some (.int x)) sh M) := propext (mv_R_iff (i := .ireturn) (len := 1) (ax := [0]) (by decide +kernel))
theorem e158_63 : mr158 S P 63 L st sh M c s = (q_isI (q_gv L 2) ∧ mr158 S P 64 L (q_gv L 2 :: st) sh M c s) := (propext (mv_R_iff (i := .iload_n 2) (len := 1) (ax := []) (by decide +kernel))).trans (q_ldI_eq (K := fun st => mr158 S P 64 L st sh M c s))
theorem e158_64 {x : Int32} : mr158 S P 64 L (.int x :: st) sh M c s = (if x = nI 0 then mr158 S P 67 L st sh M c s else mr158 S P 71 L st sh M c s) := (propext (mv_R_iff (i := .ifCond .ne 7) (len := 3) (ax := [71]) (by decide +kernel))).trans (q_br')
theorem e158_67 : mr158 S P 67 L st sh M c s = (mr158 S P 68 L (.int (nI 1) :: st) sh M c s) := propext (mv_R_iff (i := .iconst 1) (len := 1) (ax := []) (by decide +kernel))
theorem e158_68 : mr158 S P 68 L st sh M c s = (mr158 S P 72 L st sh M c s) := propext (mv_R_iff (i := .goto 4) (len := 3) (ax := [72]) (by decide +kernel))
theorem e158_71 : mr158 S P 71 L st sh M c s = (mr158 S P 72 L (.int (Int32.ofInt (-1)) :: st) sh M c s) := propext (mv_R_iff (i := .iconst (-1)) (len := 1) (ax := []) (by decide +kernel))
theorem e158_72 {x : Int32} : mr158 S P 72 L [.int x] sh M c s = (mv_nr 0 x ∧ P (some (.int x)) sh M) := propext (mv_R_iff (i := .ireturn) (len := 1) (ax := [0]) (by decide +kernel))
-- 159: TurnedTabletsModel.jams(III)Z
def mk159 : mv_Cd := [
  (0, .aload_n 0, 1, []),
  (1, .getfield 7, 3, [1025, 0, 5, 0]),
  (4, .iload_n 1, 1, []),
  (5, .bipush 12, 2, []),
  (7, .iadd, 1, []),
  (8, .iload_n 2, 1, []),
  (9, .iadd, 1, []),
  (10, .iaload, 1, []),
  (11, .aload_n 0, 1, []),
  (12, .iload_n 2, 1, []),
  (13, .iload_n 3, 1, []),
  (14, .invokevirtual 172, 3, [0, 158, 3, 5, 0, 0, 0, 1231, 1233, 89, 119, 1234]),
  (17, .iadd, 1, []),
  (18, .istore 4, 2, []),
  (20, .aload_n 0, 1, []),
  (21, .iload_n 2, 1, []),
  (22, .iload_n 3, 1, []),
  (23, .invokevirtual 172, 3, [0, 158, 3, 5, 0, 0, 0, 1231, 1233, 89, 119, 1234]),
  (26, .ifCond .eq 27, 3, [53]),
  (29, .iload 4, 2, []),
  (31, .i2l, 1, []),
  (32, .aload_n 0, 1, []),
  (33, .getfield 157, 3, [1034, 0, 5, 9]),
  (36, .ineg, 1, []),
  (37, .i2l, 1, []),
  (38, .aload_n 0, 1, []),
  (39, .getfield 157, 3, [1034, 0, 5, 9]),
  (42, .i2l, 1, []),
  (43, .invokestatic 92, 3, [3, 144, 3, 0, 0, 0, 0, 1007, 1008, 119, 1009]),
  (46, .ifCond .ne 7, 3, [53]),
  (49, .iconst 1, 1, []),
  (50, .goto 4, 3, [54]),
  (53, .iconst 0, 1, []),
  (54, .ireturn, 1, [1])]
def mr159 (S : Nat → mv_Sp) (P : mv_Post) : mv_Kt := mv_R mv_DF mk159 S (0, 0) P
theorem e159_0 : mr159 S P 0 L st sh M c s = (q_isA (q_gv L 0) ∧ mr159 S P 1 L (q_gv L 0 :: st) sh M c s) := (propext (mv_R_iff (i := .aload_n 0) (len := 1) (ax := []) (by decide +kernel))).trans (q_ldA_eq (K := fun st => mr159 S P 1 L st sh M c s))
theorem e159_1 {a : Nat} : mr159 S P 1 L (.ref a :: st) sh M c s = (mv_kgf sh M a 5 0 (mr159 S P) 4 L st c s) := propext (mv_R_iff (i := .getfield 7) (len := 3) (ax := [1025, 0, 5, 0]) (by decide +kernel))
theorem e159_4 : mr159 S P 4 L st sh M c s = (q_isI (q_gv L 1) ∧ mr159 S P 5 L (q_gv L 1 :: st) sh M c s) := (propext (mv_R_iff (i := .iload_n 1) (len := 1) (ax := []) (by decide +kernel))).trans (q_ldI_eq (K := fun st => mr159 S P 5 L st sh M c s))
theorem e159_5 : mr159 S P 5 L st sh M c s = (mr159 S P 7 L (.int (nI 12) :: st) sh M c s) := propext (mv_R_iff (i := .bipush 12) (len := 2) (ax := []) (by decide +kernel))
theorem e159_7 {y : Int32} {x : Int32} : mr159 S P 7 L (.int y :: .int x :: st) sh M c s = (mr159 S P 8 L (.int (x + y) :: st) sh M c s) := propext (mv_R_iff (i := .iadd) (len := 1) (ax := []) (by decide +kernel))
theorem e159_8 : mr159 S P 8 L st sh M c s = (q_isI (q_gv L 2) ∧ mr159 S P 9 L (q_gv L 2 :: st) sh M c s) := (propext (mv_R_iff (i := .iload_n 2) (len := 1) (ax := []) (by decide +kernel))).trans (q_ldI_eq (K := fun st => mr159 S P 9 L st sh M c s))
theorem e159_9 {y : Int32} {x : Int32} : mr159 S P 9 L (.int y :: .int x :: st) sh M c s = (mr159 S P 10 L (.int (x + y) :: st) sh M c s) := propext (mv_R_iff (i := .iadd) (len := 1) (ax := []) (by decide +kernel))
theorem e159_10 {i : Int32} {a : Nat} : mr159 S P 10 L (.int i :: .ref a :: st) sh M c s = (mv_kld sh M a i (mr159 S P) 11 L st c s) := propext (mv_R_iff (i := .iaload) (len := 1) (ax := []) (by decide +kernel))
theorem e159_11 : mr159 S P 11 L st sh M c s = (q_isA (q_gv L 0) ∧ mr159 S P 12 L (q_gv L 0 :: st) sh M c s) := (propext (mv_R_iff (i := .aload_n 0) (len := 1) (ax := []) (by decide +kernel))).trans (q_ldA_eq (K := fun st => mr159 S P 12 L st sh M c s))
theorem e159_12 : mr159 S P 12 L st sh M c s = (q_isI (q_gv L 2) ∧ mr159 S P 13 L (q_gv L 2 :: st) sh M c s) := (propext (mv_R_iff (i := .iload_n 2) (len := 1) (ax := []) (by decide +kernel))).trans (q_ldI_eq (K := fun st => mr159 S P 13 L st sh M c s))
theorem e159_13 : mr159 S P 13 L st sh M c s = (q_isI (q_gv L 3) ∧ mr159 S P 14 L (q_gv L 3 :: st) sh M c s) := (propext (mv_R_iff (i := .iload_n 3) (len := 1) (ax := []) (by decide +kernel))).trans (q_ldI_eq (K := fun st => mr159 S P 14 L st sh M c s))
theorem e159_14 {v3 : Value} {v2 : Value} {v1 : Value} : mr159 S P 14 L (v3 :: v2 :: v1 :: st) sh M c s = (mv_ss st ≤ 8 ∧ c ≤ 0 ∧ s ≤ 0 ∧ mv_isO sh (some v1) 5 ∧ mv_kal S 158 [v1, v2, v3] sh M (mr159 S P) 17 L st c s) := (propext (mv_R_iff (i := .invokevirtual 172) (len := 3) (ax := [0, 158, 3, 5, 0, 0, 0, 1231, 1233, 89, 119, 1234]) (by decide +kernel))).trans (q_call0)
theorem e159_17 {y : Int32} {x : Int32} : mr159 S P 17 L (.int y :: .int x :: st) sh M c s = (mr159 S P 18 L (.int (x + y) :: st) sh M c s) := propext (mv_R_iff (i := .iadd) (len := 1) (ax := []) (by decide +kernel))
theorem e159_18 {x : Int32} : mr159 S P 18 L (.int x :: st) sh M c s = (q_hs L 4 ∧ mr159 S P 20 (L.set 4 (some (.int x))) st sh M c s) := (propext (mv_R_iff (i := .istore 4) (len := 2) (ax := []) (by decide +kernel))).trans (q_st_eq (K := fun L => mr159 S P 20 L st sh M c s))
theorem e159_20 : mr159 S P 20 L st sh M c s = (q_isA (q_gv L 0) ∧ mr159 S P 21 L (q_gv L 0 :: st) sh M c s) := (propext (mv_R_iff (i := .aload_n 0) (len := 1) (ax := []) (by decide +kernel))).trans (q_ldA_eq (K := fun st => mr159 S P 21 L st sh M c s))
theorem e159_21 : mr159 S P 21 L st sh M c s = (q_isI (q_gv L 2) ∧ mr159 S P 22 L (q_gv L 2 :: st) sh M c s) := (propext (mv_R_iff (i := .iload_n 2) (len := 1) (ax := []) (by decide +kernel))).trans (q_ldI_eq (K := fun st => mr159 S P 22 L st sh M c s))
theorem e159_22 : mr159 S P 22 L st sh M c s = (q_isI (q_gv L 3) ∧ mr159 S P 23 L (q_gv L 3 :: st) sh M c s) := (propext (mv_R_iff (i := .iload_n 3) (len := 1) (ax := []) (by decide +kernel))).trans (q_ldI_eq (K := fun st => mr159 S P 23 L st sh M c s))
theorem e159_23 {v3 : Value} {v2 : Value} {v1 : Value} : mr159 S P 23 L (v3 :: v2 :: v1 :: st) sh M c s = (mv_ss st ≤ 8 ∧ c ≤ 0 ∧ s ≤ 0 ∧ mv_isO sh (some v1) 5 ∧ mv_kal S 158 [v1, v2, v3] sh M (mr159 S P) 26 L st c s) := (propext (mv_R_iff (i := .invokevirtual 172) (len := 3) (ax := [0, 158, 3, 5, 0, 0, 0, 1231, 1233, 89, 119, 1234]) (by decide +kernel))).trans (q_call0)
theorem e159_26 {x : Int32} : mr159 S P 26 L (.int x :: st) sh M c s = (if x = nI 0 then mr159 S P 53 L st sh M c s else mr159 S P 29 L st sh M c s) := (propext (mv_R_iff (i := .ifCond .eq 27) (len := 3) (ax := [53]) (by decide +kernel))).trans (q_br)
theorem e159_29 : mr159 S P 29 L st sh M c s = (q_isI (q_gv L 4) ∧ mr159 S P 31 L (q_gv L 4 :: st) sh M c s) := (propext (mv_R_iff (i := .iload 4) (len := 2) (ax := []) (by decide +kernel))).trans (q_ldI_eq (K := fun st => mr159 S P 31 L st sh M c s))
theorem e159_31 {x : Int32} : mr159 S P 31 L (.int x :: st) sh M c s = (mr159 S P 32 L (.long x.toInt64 :: st) sh M c s) := propext (mv_R_iff (i := .i2l) (len := 1) (ax := []) (by decide +kernel))
theorem e159_32 : mr159 S P 32 L st sh M c s = (q_isA (q_gv L 0) ∧ mr159 S P 33 L (q_gv L 0 :: st) sh M c s) := (propext (mv_R_iff (i := .aload_n 0) (len := 1) (ax := []) (by decide +kernel))).trans (q_ldA_eq (K := fun st => mr159 S P 33 L st sh M c s))
theorem e159_33 {a : Nat} : mr159 S P 33 L (.ref a :: st) sh M c s = (mv_kgf sh M a 5 9 (mr159 S P) 36 L st c s) := propext (mv_R_iff (i := .getfield 157) (len := 3) (ax := [1034, 0, 5, 9]) (by decide +kernel))
theorem e159_36 {x : Int32} : mr159 S P 36 L (.int x :: st) sh M c s = (mr159 S P 37 L (.int (-x) :: st) sh M c s) := propext (mv_R_iff (i := .ineg) (len := 1) (ax := []) (by decide +kernel))
theorem e159_37 {x : Int32} : mr159 S P 37 L (.int x :: st) sh M c s = (mr159 S P 38 L (.long x.toInt64 :: st) sh M c s) := propext (mv_R_iff (i := .i2l) (len := 1) (ax := []) (by decide +kernel))
theorem e159_38 : mr159 S P 38 L st sh M c s = (q_isA (q_gv L 0) ∧ mr159 S P 39 L (q_gv L 0 :: st) sh M c s) := (propext (mv_R_iff (i := .aload_n 0) (len := 1) (ax := []) (by decide +kernel))).trans (q_ldA_eq (K := fun st => mr159 S P 39 L st sh M c s))
theorem e159_39 {a : Nat} : mr159 S P 39 L (.ref a :: st) sh M c s = (mv_kgf sh M a 5 9 (mr159 S P) 42 L st c s) := propext (mv_R_iff (i := .getfield 157) (len := 3) (ax := [1034, 0, 5, 9]) (by decide +kernel))
theorem e159_42 {x : Int32} : mr159 S P 42 L (.int x :: st) sh M c s = (mr159 S P 43 L (.long x.toInt64 :: st) sh M c s) := propext (mv_R_iff (i := .i2l) (len := 1) (ax := []) (by decide +kernel))
theorem e159_43 {v3 : Value} {v2 : Value} {v1 : Value} : mr159 S P 43 L (v3 :: v2 :: v1 :: st) sh M c s = (mv_ss st ≤ 8 ∧ c ≤ 0 ∧ s ≤ 0 ∧ True ∧ mv_kal S 144 [v1, v2, v3] sh M (mr159 S P) 46 L st c s) := (propext (mv_R_iff (i := .invokestatic 92) (len := 3) (ax := [3, 144, 3, 0, 0, 0, 0, 1007, 1008, 119, 1009]) (by decide +kernel))).trans (q_call3)
theorem e159_46 {x : Int32} : mr159 S P 46 L (.int x :: st) sh M c s = (if x = nI 0 then mr159 S P 49 L st sh M c s else mr159 S P 53 L st sh M c s) := (propext (mv_R_iff (i := .ifCond .ne 7) (len := 3) (ax := [53]) (by decide +kernel))).trans (q_br')
theorem e159_49 : mr159 S P 49 L st sh M c s = (mr159 S P 50 L (.int (nI 1) :: st) sh M c s) := propext (mv_R_iff (i := .iconst 1) (len := 1) (ax := []) (by decide +kernel))
theorem e159_50 : mr159 S P 50 L st sh M c s = (mr159 S P 54 L st sh M c s) := propext (mv_R_iff (i := .goto 4) (len := 3) (ax := [54]) (by decide +kernel))
theorem e159_53 : mr159 S P 53 L st sh M c s = (mr159 S P 54 L (.int (nI 0) :: st) sh M c s) := propext (mv_R_iff (i := .iconst 0) (len := 1) (ax := []) (by decide +kernel))
theorem e159_54 {x : Int32} : mr159 S P 54 L [.int x] sh M c s = (mv_nr 1 x ∧ P (some (.int x)) sh M) := propext (mv_R_iff (i := .ireturn) (len := 1) (ax := [1]) (by decide +kernel))
-- 160: TurnedTabletsModel.turns(III)Z
def mk160 : mv_Cd := [
  (0, .aload_n 0, 1, []),
  (1, .iload_n 2, 1, []),
  (2, .iload_n 3, 1, []),
  (3, .invokevirtual 172, 3, [0, 158, 3, 5, 0, 0, 0, 1231, 1233, 89, 119, 1234]),
  (6, .istore 4, 2, []),
  (8, .iload 4, 2, []),
  (10, .ifCond .eq 17, 3, [27]),
  (13, .aload_n 0, 1, []),
  (14, .iload_n 1, 1, []),
  (15, .iload_n 2, 1, []),
  (16, .iload_n 3, 1, []),
  (17, .invokevirtual 176, 3, [0, 159, 4, 5, 0, 0, 0, 1227, 1229, 88, 119, 1230]),
  (20, .ifCond .ne 7, 3, [27]),
  (23, .iconst 1, 1, []),
  (24, .goto 4, 3, [28]),
  (27, .iconst 0, 1, []),
  (28, .istore 5, 2, []),
  (30, .iload 5, 2, []),
  (32, .ifCond .eq 67, 3, [99]),
  (35, .aload_n 0, 1, []),
  (36, .getfield 7, 3, [1025, 0, 5, 0]),
  (39, .iload_n 1, 1, []),
  (40, .bipush 6, 2, []),
  (42, .iadd, 1, []),
  (43, .iload_n 2, 1, []),
  (44, .iadd, 1, []),
  (45, .aload_n 0, 1, []),
  (46, .getfield 7, 3, [1025, 0, 5, 0]),
  (49, .iload_n 1, 1, []),
  (50, .bipush 6, 2, []),
  (52, .iadd, 1, []),
  (53, .iload_n 2, 1, []),
  (54, .iadd, 1, []),
  (55, .iaload, 1, []),
  (56, .iload 4, 2, []),
  (58, .iadd, 1, []),
  (59, .iconst 3, 1, []),
  (60, .iand, 1, []),
  (61, .iastore, 1, []),
  (62, .aload_n 0, 1, []),
  (63, .getfield 7, 3, [1025, 0, 5, 0]),
  (66, .iload_n 1, 1, []),
  (67, .bipush 12, 2, []),
  (69, .iadd, 1, []),
  (70, .iload_n 2, 1, []),
  (71, .iadd, 1, []),
  (72, .dup2, 1, []),
  (73, .iaload, 1, []),
  (74, .iload 4, 2, []),
  (76, .iadd, 1, []),
  (77, .iastore, 1, []),
  (78, .aload_n 0, 1, []),
  (79, .getfield 7, 3, [1025, 0, 5, 0]),
  (82, .iload_n 1, 1, []),
  (83, .bipush 24, 2, []),
  (85, .iadd, 1, []),
  (86, .iload_n 2, 1, []),
  (87, .iadd, 1, []),
  (88, .iload 4, 2, []),
  (90, .ifCond .le 7, 3, [97]),
  (93, .iconst 0, 1, []),
  (94, .goto 4, 3, [98]),
  (97, .iconst 1, 1, []),
  (98, .iastore, 1, []),
  (99, .iload 5, 2, []),
  (101, .ireturn, 1, [1])]
def mr160 (S : Nat → mv_Sp) (P : mv_Post) : mv_Kt := mv_R mv_DF mk160 S (0, 0) P
theorem e160_0 : mr160 S P 0 L st sh M c s = (q_isA (q_gv L 0) ∧ mr160 S P 1 L (q_gv L 0 :: st) sh M c s) := (propext (mv_R_iff (i := .aload_n 0) (len := 1) (ax := []) (by decide +kernel))).trans (q_ldA_eq (K := fun st => mr160 S P 1 L st sh M c s))
theorem e160_1 : mr160 S P 1 L st sh M c s = (q_isI (q_gv L 2) ∧ mr160 S P 2 L (q_gv L 2 :: st) sh M c s) := (propext (mv_R_iff (i := .iload_n 2) (len := 1) (ax := []) (by decide +kernel))).trans (q_ldI_eq (K := fun st => mr160 S P 2 L st sh M c s))
theorem e160_2 : mr160 S P 2 L st sh M c s = (q_isI (q_gv L 3) ∧ mr160 S P 3 L (q_gv L 3 :: st) sh M c s) := (propext (mv_R_iff (i := .iload_n 3) (len := 1) (ax := []) (by decide +kernel))).trans (q_ldI_eq (K := fun st => mr160 S P 3 L st sh M c s))
theorem e160_3 {v3 : Value} {v2 : Value} {v1 : Value} : mr160 S P 3 L (v3 :: v2 :: v1 :: st) sh M c s = (mv_ss st ≤ 8 ∧ c ≤ 0 ∧ s ≤ 0 ∧ mv_isO sh (some v1) 5 ∧ mv_kal S 158 [v1, v2, v3] sh M (mr160 S P) 6 L st c s) := (propext (mv_R_iff (i := .invokevirtual 172) (len := 3) (ax := [0, 158, 3, 5, 0, 0, 0, 1231, 1233, 89, 119, 1234]) (by decide +kernel))).trans (q_call0)
theorem e160_6 {x : Int32} : mr160 S P 6 L (.int x :: st) sh M c s = (q_hs L 4 ∧ mr160 S P 8 (L.set 4 (some (.int x))) st sh M c s) := (propext (mv_R_iff (i := .istore 4) (len := 2) (ax := []) (by decide +kernel))).trans (q_st_eq (K := fun L => mr160 S P 8 L st sh M c s))
theorem e160_8 : mr160 S P 8 L st sh M c s = (q_isI (q_gv L 4) ∧ mr160 S P 10 L (q_gv L 4 :: st) sh M c s) := (propext (mv_R_iff (i := .iload 4) (len := 2) (ax := []) (by decide +kernel))).trans (q_ldI_eq (K := fun st => mr160 S P 10 L st sh M c s))
theorem e160_10 {x : Int32} : mr160 S P 10 L (.int x :: st) sh M c s = (if x = nI 0 then mr160 S P 27 L st sh M c s else mr160 S P 13 L st sh M c s) := (propext (mv_R_iff (i := .ifCond .eq 17) (len := 3) (ax := [27]) (by decide +kernel))).trans (q_br)
theorem e160_13 : mr160 S P 13 L st sh M c s = (q_isA (q_gv L 0) ∧ mr160 S P 14 L (q_gv L 0 :: st) sh M c s) := (propext (mv_R_iff (i := .aload_n 0) (len := 1) (ax := []) (by decide +kernel))).trans (q_ldA_eq (K := fun st => mr160 S P 14 L st sh M c s))
theorem e160_14 : mr160 S P 14 L st sh M c s = (q_isI (q_gv L 1) ∧ mr160 S P 15 L (q_gv L 1 :: st) sh M c s) := (propext (mv_R_iff (i := .iload_n 1) (len := 1) (ax := []) (by decide +kernel))).trans (q_ldI_eq (K := fun st => mr160 S P 15 L st sh M c s))
theorem e160_15 : mr160 S P 15 L st sh M c s = (q_isI (q_gv L 2) ∧ mr160 S P 16 L (q_gv L 2 :: st) sh M c s) := (propext (mv_R_iff (i := .iload_n 2) (len := 1) (ax := []) (by decide +kernel))).trans (q_ldI_eq (K := fun st => mr160 S P 16 L st sh M c s))
theorem e160_16 : mr160 S P 16 L st sh M c s = (q_isI (q_gv L 3) ∧ mr160 S P 17 L (q_gv L 3 :: st) sh M c s) := (propext (mv_R_iff (i := .iload_n 3) (len := 1) (ax := []) (by decide +kernel))).trans (q_ldI_eq (K := fun st => mr160 S P 17 L st sh M c s))
theorem e160_17 {v4 : Value} {v3 : Value} {v2 : Value} {v1 : Value} : mr160 S P 17 L (v4 :: v3 :: v2 :: v1 :: st) sh M c s = (mv_ss st ≤ 8 ∧ c ≤ 0 ∧ s ≤ 0 ∧ mv_isO sh (some v1) 5 ∧ mv_kal S 159 [v1, v2, v3, v4] sh M (mr160 S P) 20 L st c s) := (propext (mv_R_iff (i := .invokevirtual 176) (len := 3) (ax := [0, 159, 4, 5, 0, 0, 0, 1227, 1229, 88, 119, 1230]) (by decide +kernel))).trans (q_call0)
theorem e160_20 {x : Int32} : mr160 S P 20 L (.int x :: st) sh M c s = (if x = nI 0 then mr160 S P 23 L st sh M c s else mr160 S P 27 L st sh M c s) := (propext (mv_R_iff (i := .ifCond .ne 7) (len := 3) (ax := [27]) (by decide +kernel))).trans (q_br')
theorem e160_23 : mr160 S P 23 L st sh M c s = (mr160 S P 24 L (.int (nI 1) :: st) sh M c s) := propext (mv_R_iff (i := .iconst 1) (len := 1) (ax := []) (by decide +kernel))
theorem e160_24 : mr160 S P 24 L st sh M c s = (mr160 S P 28 L st sh M c s) := propext (mv_R_iff (i := .goto 4) (len := 3) (ax := [28]) (by decide +kernel))
theorem e160_27 : mr160 S P 27 L st sh M c s = (mr160 S P 28 L (.int (nI 0) :: st) sh M c s) := propext (mv_R_iff (i := .iconst 0) (len := 1) (ax := []) (by decide +kernel))
theorem e160_28 {x : Int32} : mr160 S P 28 L (.int x :: st) sh M c s = (q_hs L 5 ∧ mr160 S P 30 (L.set 5 (some (.int x))) st sh M c s) := (propext (mv_R_iff (i := .istore 5) (len := 2) (ax := []) (by decide +kernel))).trans (q_st_eq (K := fun L => mr160 S P 30 L st sh M c s))
theorem e160_30 : mr160 S P 30 L st sh M c s = (q_isI (q_gv L 5) ∧ mr160 S P 32 L (q_gv L 5 :: st) sh M c s) := (propext (mv_R_iff (i := .iload 5) (len := 2) (ax := []) (by decide +kernel))).trans (q_ldI_eq (K := fun st => mr160 S P 32 L st sh M c s))
theorem e160_32 {x : Int32} : mr160 S P 32 L (.int x :: st) sh M c s = (if x = nI 0 then mr160 S P 99 L st sh M c s else mr160 S P 35 L st sh M c s) := (propext (mv_R_iff (i := .ifCond .eq 67) (len := 3) (ax := [99]) (by decide +kernel))).trans (q_br)
theorem e160_35 : mr160 S P 35 L st sh M c s = (q_isA (q_gv L 0) ∧ mr160 S P 36 L (q_gv L 0 :: st) sh M c s) := (propext (mv_R_iff (i := .aload_n 0) (len := 1) (ax := []) (by decide +kernel))).trans (q_ldA_eq (K := fun st => mr160 S P 36 L st sh M c s))
theorem e160_36 {a : Nat} : mr160 S P 36 L (.ref a :: st) sh M c s = (mv_kgf sh M a 5 0 (mr160 S P) 39 L st c s) := propext (mv_R_iff (i := .getfield 7) (len := 3) (ax := [1025, 0, 5, 0]) (by decide +kernel))
theorem e160_39 : mr160 S P 39 L st sh M c s = (q_isI (q_gv L 1) ∧ mr160 S P 40 L (q_gv L 1 :: st) sh M c s) := (propext (mv_R_iff (i := .iload_n 1) (len := 1) (ax := []) (by decide +kernel))).trans (q_ldI_eq (K := fun st => mr160 S P 40 L st sh M c s))
theorem e160_40 : mr160 S P 40 L st sh M c s = (mr160 S P 42 L (.int (nI 6) :: st) sh M c s) := propext (mv_R_iff (i := .bipush 6) (len := 2) (ax := []) (by decide +kernel))
theorem e160_42 {y : Int32} {x : Int32} : mr160 S P 42 L (.int y :: .int x :: st) sh M c s = (mr160 S P 43 L (.int (x + y) :: st) sh M c s) := propext (mv_R_iff (i := .iadd) (len := 1) (ax := []) (by decide +kernel))
theorem e160_43 : mr160 S P 43 L st sh M c s = (q_isI (q_gv L 2) ∧ mr160 S P 44 L (q_gv L 2 :: st) sh M c s) := (propext (mv_R_iff (i := .iload_n 2) (len := 1) (ax := []) (by decide +kernel))).trans (q_ldI_eq (K := fun st => mr160 S P 44 L st sh M c s))
theorem e160_44 {y : Int32} {x : Int32} : mr160 S P 44 L (.int y :: .int x :: st) sh M c s = (mr160 S P 45 L (.int (x + y) :: st) sh M c s) := propext (mv_R_iff (i := .iadd) (len := 1) (ax := []) (by decide +kernel))
theorem e160_45 : mr160 S P 45 L st sh M c s = (q_isA (q_gv L 0) ∧ mr160 S P 46 L (q_gv L 0 :: st) sh M c s) := (propext (mv_R_iff (i := .aload_n 0) (len := 1) (ax := []) (by decide +kernel))).trans (q_ldA_eq (K := fun st => mr160 S P 46 L st sh M c s))
theorem e160_46 {a : Nat} : mr160 S P 46 L (.ref a :: st) sh M c s = (mv_kgf sh M a 5 0 (mr160 S P) 49 L st c s) := propext (mv_R_iff (i := .getfield 7) (len := 3) (ax := [1025, 0, 5, 0]) (by decide +kernel))
theorem e160_49 : mr160 S P 49 L st sh M c s = (q_isI (q_gv L 1) ∧ mr160 S P 50 L (q_gv L 1 :: st) sh M c s) := (propext (mv_R_iff (i := .iload_n 1) (len := 1) (ax := []) (by decide +kernel))).trans (q_ldI_eq (K := fun st => mr160 S P 50 L st sh M c s))
theorem e160_50 : mr160 S P 50 L st sh M c s = (mr160 S P 52 L (.int (nI 6) :: st) sh M c s) := propext (mv_R_iff (i := .bipush 6) (len := 2) (ax := []) (by decide +kernel))
theorem e160_52 {y : Int32} {x : Int32} : mr160 S P 52 L (.int y :: .int x :: st) sh M c s = (mr160 S P 53 L (.int (x + y) :: st) sh M c s) := propext (mv_R_iff (i := .iadd) (len := 1) (ax := []) (by decide +kernel))
theorem e160_53 : mr160 S P 53 L st sh M c s = (q_isI (q_gv L 2) ∧ mr160 S P 54 L (q_gv L 2 :: st) sh M c s) := (propext (mv_R_iff (i := .iload_n 2) (len := 1) (ax := []) (by decide +kernel))).trans (q_ldI_eq (K := fun st => mr160 S P 54 L st sh M c s))
theorem e160_54 {y : Int32} {x : Int32} : mr160 S P 54 L (.int y :: .int x :: st) sh M c s = (mr160 S P 55 L (.int (x + y) :: st) sh M c s) := propext (mv_R_iff (i := .iadd) (len := 1) (ax := []) (by decide +kernel))
theorem e160_55 {i : Int32} {a : Nat} : mr160 S P 55 L (.int i :: .ref a :: st) sh M c s = (mv_kld sh M a i (mr160 S P) 56 L st c s) := propext (mv_R_iff (i := .iaload) (len := 1) (ax := []) (by decide +kernel))
theorem e160_56 : mr160 S P 56 L st sh M c s = (q_isI (q_gv L 4) ∧ mr160 S P 58 L (q_gv L 4 :: st) sh M c s) := (propext (mv_R_iff (i := .iload 4) (len := 2) (ax := []) (by decide +kernel))).trans (q_ldI_eq (K := fun st => mr160 S P 58 L st sh M c s))
theorem e160_58 {y : Int32} {x : Int32} : mr160 S P 58 L (.int y :: .int x :: st) sh M c s = (mr160 S P 59 L (.int (x + y) :: st) sh M c s) := propext (mv_R_iff (i := .iadd) (len := 1) (ax := []) (by decide +kernel))
theorem e160_59 : mr160 S P 59 L st sh M c s = (mr160 S P 60 L (.int (nI 3) :: st) sh M c s) := propext (mv_R_iff (i := .iconst 3) (len := 1) (ax := []) (by decide +kernel))
theorem e160_60 {y : Int32} {x : Int32} : mr160 S P 60 L (.int y :: .int x :: st) sh M c s = (mr160 S P 61 L (.int (x &&& y) :: st) sh M c s) := propext (mv_R_iff (i := .iand) (len := 1) (ax := []) (by decide +kernel))
theorem e160_61 {x : Int32} {i : Int32} {a : Nat} : mr160 S P 61 L (.int x :: .int i :: .ref a :: st) sh M c s = (mv_kst sh M a i x (mr160 S P) 62 L st c s) := propext (mv_R_iff (i := .iastore) (len := 1) (ax := []) (by decide +kernel))
theorem e160_62 : mr160 S P 62 L st sh M c s = (q_isA (q_gv L 0) ∧ mr160 S P 63 L (q_gv L 0 :: st) sh M c s) := (propext (mv_R_iff (i := .aload_n 0) (len := 1) (ax := []) (by decide +kernel))).trans (q_ldA_eq (K := fun st => mr160 S P 63 L st sh M c s))
theorem e160_63 {a : Nat} : mr160 S P 63 L (.ref a :: st) sh M c s = (mv_kgf sh M a 5 0 (mr160 S P) 66 L st c s) := propext (mv_R_iff (i := .getfield 7) (len := 3) (ax := [1025, 0, 5, 0]) (by decide +kernel))
theorem e160_66 : mr160 S P 66 L st sh M c s = (q_isI (q_gv L 1) ∧ mr160 S P 67 L (q_gv L 1 :: st) sh M c s) := (propext (mv_R_iff (i := .iload_n 1) (len := 1) (ax := []) (by decide +kernel))).trans (q_ldI_eq (K := fun st => mr160 S P 67 L st sh M c s))
theorem e160_67 : mr160 S P 67 L st sh M c s = (mr160 S P 69 L (.int (nI 12) :: st) sh M c s) := propext (mv_R_iff (i := .bipush 12) (len := 2) (ax := []) (by decide +kernel))
theorem e160_69 {y : Int32} {x : Int32} : mr160 S P 69 L (.int y :: .int x :: st) sh M c s = (mr160 S P 70 L (.int (x + y) :: st) sh M c s) := propext (mv_R_iff (i := .iadd) (len := 1) (ax := []) (by decide +kernel))
theorem e160_70 : mr160 S P 70 L st sh M c s = (q_isI (q_gv L 2) ∧ mr160 S P 71 L (q_gv L 2 :: st) sh M c s) := (propext (mv_R_iff (i := .iload_n 2) (len := 1) (ax := []) (by decide +kernel))).trans (q_ldI_eq (K := fun st => mr160 S P 71 L st sh M c s))
theorem e160_71 {y : Int32} {x : Int32} : mr160 S P 71 L (.int y :: .int x :: st) sh M c s = (mr160 S P 72 L (.int (x + y) :: st) sh M c s) := propext (mv_R_iff (i := .iadd) (len := 1) (ax := []) (by decide +kernel))
theorem e160_72 {x : Int32} {y : Int32} : mr160 S P 72 L (.int x :: .int y :: st) sh M c s = (mr160 S P 73 L (.int x :: .int y :: .int x :: .int y :: st) sh M c s) := propext (mv_R_iff (i := .dup2) (len := 1) (ax := []) (by decide +kernel))
theorem e160_72q {x : Int32} {y : Nat} : mr160 S P 72 L (.int x :: .ref y :: st) sh M c s = (mr160 S P 73 L (.int x :: .ref y :: .int x :: .ref y :: st) sh M c s) := propext (mv_R_iff (i := .dup2) (len := 1) (ax := []) (by decide +kernel))
theorem e160_72r {x : Nat} {y : Int32} : mr160 S P 72 L (.ref x :: .int y :: st) sh M c s = (mr160 S P 73 L (.ref x :: .int y :: .ref x :: .int y :: st) sh M c s) := propext (mv_R_iff (i := .dup2) (len := 1) (ax := []) (by decide +kernel))
theorem e160_72rq {x : Nat} {y : Nat} : mr160 S P 72 L (.ref x :: .ref y :: st) sh M c s = (mr160 S P 73 L (.ref x :: .ref y :: .ref x :: .ref y :: st) sh M c s) := propext (mv_R_iff (i := .dup2) (len := 1) (ax := []) (by decide +kernel))
theorem e160_73 {i : Int32} {a : Nat} : mr160 S P 73 L (.int i :: .ref a :: st) sh M c s = (mv_kld sh M a i (mr160 S P) 74 L st c s) := propext (mv_R_iff (i := .iaload) (len := 1) (ax := []) (by decide +kernel))
theorem e160_74 : mr160 S P 74 L st sh M c s = (q_isI (q_gv L 4) ∧ mr160 S P 76 L (q_gv L 4 :: st) sh M c s) := (propext (mv_R_iff (i := .iload 4) (len := 2) (ax := []) (by decide +kernel))).trans (q_ldI_eq (K := fun st => mr160 S P 76 L st sh M c s))
theorem e160_76 {y : Int32} {x : Int32} : mr160 S P 76 L (.int y :: .int x :: st) sh M c s = (mr160 S P 77 L (.int (x + y) :: st) sh M c s) := propext (mv_R_iff (i := .iadd) (len := 1) (ax := []) (by decide +kernel))
theorem e160_77 {x : Int32} {i : Int32} {a : Nat} : mr160 S P 77 L (.int x :: .int i :: .ref a :: st) sh M c s = (mv_kst sh M a i x (mr160 S P) 78 L st c s) := propext (mv_R_iff (i := .iastore) (len := 1) (ax := []) (by decide +kernel))
theorem e160_78 : mr160 S P 78 L st sh M c s = (q_isA (q_gv L 0) ∧ mr160 S P 79 L (q_gv L 0 :: st) sh M c s) := (propext (mv_R_iff (i := .aload_n 0) (len := 1) (ax := []) (by decide +kernel))).trans (q_ldA_eq (K := fun st => mr160 S P 79 L st sh M c s))
theorem e160_79 {a : Nat} : mr160 S P 79 L (.ref a :: st) sh M c s = (mv_kgf sh M a 5 0 (mr160 S P) 82 L st c s) := propext (mv_R_iff (i := .getfield 7) (len := 3) (ax := [1025, 0, 5, 0]) (by decide +kernel))
theorem e160_82 : mr160 S P 82 L st sh M c s = (q_isI (q_gv L 1) ∧ mr160 S P 83 L (q_gv L 1 :: st) sh M c s) := (propext (mv_R_iff (i := .iload_n 1) (len := 1) (ax := []) (by decide +kernel))).trans (q_ldI_eq (K := fun st => mr160 S P 83 L st sh M c s))
theorem e160_83 : mr160 S P 83 L st sh M c s = (mr160 S P 85 L (.int (nI 24) :: st) sh M c s) := propext (mv_R_iff (i := .bipush 24) (len := 2) (ax := []) (by decide +kernel))
theorem e160_85 {y : Int32} {x : Int32} : mr160 S P 85 L (.int y :: .int x :: st) sh M c s = (mr160 S P 86 L (.int (x + y) :: st) sh M c s) := propext (mv_R_iff (i := .iadd) (len := 1) (ax := []) (by decide +kernel))
theorem e160_86 : mr160 S P 86 L st sh M c s = (q_isI (q_gv L 2) ∧ mr160 S P 87 L (q_gv L 2 :: st) sh M c s) := (propext (mv_R_iff (i := .iload_n 2) (len := 1) (ax := []) (by decide +kernel))).trans (q_ldI_eq (K := fun st => mr160 S P 87 L st sh M c s))
theorem e160_87 {y : Int32} {x : Int32} : mr160 S P 87 L (.int y :: .int x :: st) sh M c s = (mr160 S P 88 L (.int (x + y) :: st) sh M c s) := propext (mv_R_iff (i := .iadd) (len := 1) (ax := []) (by decide +kernel))
theorem e160_88 : mr160 S P 88 L st sh M c s = (q_isI (q_gv L 4) ∧ mr160 S P 90 L (q_gv L 4 :: st) sh M c s) := (propext (mv_R_iff (i := .iload 4) (len := 2) (ax := []) (by decide +kernel))).trans (q_ldI_eq (K := fun st => mr160 S P 90 L st sh M c s))
theorem e160_90 {x : Int32} : mr160 S P 90 L (.int x :: st) sh M c s = (if x ≤ nI 0 then mr160 S P 97 L st sh M c s else mr160 S P 93 L st sh M c s) := (propext (mv_R_iff (i := .ifCond .le 7) (len := 3) (ax := [97]) (by decide +kernel))).trans (q_br)
theorem e160_93 : mr160 S P 93 L st sh M c s = (mr160 S P 94 L (.int (nI 0) :: st) sh M c s) := propext (mv_R_iff (i := .iconst 0) (len := 1) (ax := []) (by decide +kernel))
theorem e160_94 : mr160 S P 94 L st sh M c s = (mr160 S P 98 L st sh M c s) := propext (mv_R_iff (i := .goto 4) (len := 3) (ax := [98]) (by decide +kernel))
theorem e160_97 : mr160 S P 97 L st sh M c s = (mr160 S P 98 L (.int (nI 1) :: st) sh M c s) := propext (mv_R_iff (i := .iconst 1) (len := 1) (ax := []) (by decide +kernel))
theorem e160_98 {x : Int32} {i : Int32} {a : Nat} : mr160 S P 98 L (.int x :: .int i :: .ref a :: st) sh M c s = (mv_kst sh M a i x (mr160 S P) 99 L st c s) := propext (mv_R_iff (i := .iastore) (len := 1) (ax := []) (by decide +kernel))
theorem e160_99 : mr160 S P 99 L st sh M c s = (q_isI (q_gv L 5) ∧ mr160 S P 101 L (q_gv L 5 :: st) sh M c s) := (propext (mv_R_iff (i := .iload 5) (len := 2) (ax := []) (by decide +kernel))).trans (q_ldI_eq (K := fun st => mr160 S P 101 L st sh M c s))
theorem e160_101 {x : Int32} : mr160 S P 101 L [.int x] sh M c s = (mv_nr 1 x ∧ P (some (.int x)) sh M) := propext (mv_R_iff (i := .ireturn) (len := 1) (ax := [1]) (by decide +kernel))
-- 161: TurnedTabletsModel.picks(III)I
def mk161 : mv_Cd := [
  (0, .iconst 0, 1, []),
  (1, .istore 4, 2, []),
  (3, .iconst 0, 1, []),
  (4, .istore 5, 2, []),
  (6, .iload 5, 2, []),
  (8, .aload_n 0, 1, []),
  (9, .getfield 151, 3, [1028, 0, 5, 3]),
  (12, .if_icmp .ge 122, 3, [134]),
  (15, .aload_n 0, 1, []),
  (16, .getfield 22, 3, [1033, 0, 5, 8]),
  (19, .iload_n 2, 1, []),
  (20, .iaload, 1, []),
  (21, .iload 5, 2, []),
  (23, .invokestatic 124, 3, [3, 148, 2, 0, 0, 0, 0, 1014, 1015, 119, 1016]),
  (26, .istore 6, 2, []),
  (28, .iload 4, 2, []),
  (30, .iload 6, 2, []),
  (32, .ifCond .eq 18, 3, [50]),
  (35, .aload_n 0, 1, []),
  (36, .iload_n 1, 1, []),
  (37, .iload 5, 2, []),
  (39, .iload_n 3, 1, []),
  (40, .invokevirtual 176, 3, [0, 159, 4, 5, 0, 0, 0, 1227, 1229, 88, 119, 1230]),
  (43, .ifCond .eq 7, 3, [50]),
  (46, .iconst 1, 1, []),
  (47, .goto 4, 3, [51]),
  (50, .iconst 0, 1, []),
  (51, .iadd, 1, []),
  (52, .istore 4, 2, []),
  (54, .iload 6, 2, []),
  (56, .ifCond .eq 18, 3, [74]),
  (59, .aload_n 0, 1, []),
  (60, .iload_n 1, 1, []),
  (61, .iload 5, 2, []),
  (63, .iload_n 3, 1, []),
  (64, .invokevirtual 183, 3, [0, 160, 4, 5, 0, 0, 0, 1235, 1237, 90, 119, 1238]),
  (67, .ifCond .eq 7, 3, [74]),
  (70, .iconst 1, 1, []),
  (71, .goto 4, 3, [75]),
  (74, .iconst 0, 1, []),
  (75, .istore 7, 2, []),
  (77, .aload_n 0, 1, []),
  (78, .getfield 7, 3, [1025, 0, 5, 0]),
  (81, .iload_n 1, 1, []),
  (82, .bipush 18, 2, []),
  (84, .iadd, 1, []),
  (85, .iload 5, 2, []),
  (87, .iadd, 1, []),
  (88, .iaload, 1, []),
  (89, .istore 8, 2, []),
  (91, .aload_n 0, 1, []),
  (92, .getfield 7, 3, [1025, 0, 5, 0]),
  (95, .iload_n 1, 1, []),
  (96, .bipush 18, 2, []),
  (98, .iadd, 1, []),
  (99, .iload 5, 2, []),
  (101, .iadd, 1, []),
  (102, .iload 7, 2, []),
  (104, .ifCond .eq 7, 3, [111]),
  (107, .iconst 0, 1, []),
  (108, .goto 19, 3, [127]),
  (111, .iload 8, 2, []),
  (113, .bipush 99, 2, []),
  (115, .if_icmp .ne 8, 3, [123]),
  (118, .bipush 99, 2, []),
  (120, .goto 7, 3, [127]),
  (123, .iload 8, 2, []),
  (125, .iconst 1, 1, []),
  (126, .iadd, 1, []),
  (127, .iastore, 1, []),
  (128, .iinc 5 1, 3, []),
  (131, .goto (-125), 3, [6]),
  (134, .iload 4, 2, []),
  (136, .ireturn, 1, [0])]
def mr161 (S : Nat → mv_Sp) (P : mv_Post) : mv_Kt := mv_R mv_DF mk161 S (0, 0) P
theorem e161_0 : mr161 S P 0 L st sh M c s = (mr161 S P 1 L (.int (nI 0) :: st) sh M c s) := propext (mv_R_iff (i := .iconst 0) (len := 1) (ax := []) (by decide +kernel))
theorem e161_1 {x : Int32} : mr161 S P 1 L (.int x :: st) sh M c s = (q_hs L 4 ∧ mr161 S P 3 (L.set 4 (some (.int x))) st sh M c s) := (propext (mv_R_iff (i := .istore 4) (len := 2) (ax := []) (by decide +kernel))).trans (q_st_eq (K := fun L => mr161 S P 3 L st sh M c s))
theorem e161_3 : mr161 S P 3 L st sh M c s = (mr161 S P 4 L (.int (nI 0) :: st) sh M c s) := propext (mv_R_iff (i := .iconst 0) (len := 1) (ax := []) (by decide +kernel))
theorem e161_4 {x : Int32} : mr161 S P 4 L (.int x :: st) sh M c s = (q_hs L 5 ∧ mr161 S P 6 (L.set 5 (some (.int x))) st sh M c s) := (propext (mv_R_iff (i := .istore 5) (len := 2) (ax := []) (by decide +kernel))).trans (q_st_eq (K := fun L => mr161 S P 6 L st sh M c s))
theorem e161_6 : mr161 S P 6 L st sh M c s = (q_isI (q_gv L 5) ∧ mr161 S P 8 L (q_gv L 5 :: st) sh M c s) := (propext (mv_R_iff (i := .iload 5) (len := 2) (ax := []) (by decide +kernel))).trans (q_ldI_eq (K := fun st => mr161 S P 8 L st sh M c s))
theorem e161_8 : mr161 S P 8 L st sh M c s = (q_isA (q_gv L 0) ∧ mr161 S P 9 L (q_gv L 0 :: st) sh M c s) := (propext (mv_R_iff (i := .aload_n 0) (len := 1) (ax := []) (by decide +kernel))).trans (q_ldA_eq (K := fun st => mr161 S P 9 L st sh M c s))
theorem e161_9 {a : Nat} : mr161 S P 9 L (.ref a :: st) sh M c s = (mv_kgf sh M a 5 3 (mr161 S P) 12 L st c s) := propext (mv_R_iff (i := .getfield 151) (len := 3) (ax := [1028, 0, 5, 3]) (by decide +kernel))
theorem e161_12 {y : Int32} {x : Int32} : mr161 S P 12 L (.int y :: .int x :: st) sh M c s = (if y ≤ x then mr161 S P 134 L st sh M c s else mr161 S P 15 L st sh M c s) := (propext (mv_R_iff (i := .if_icmp .ge 122) (len := 3) (ax := [134]) (by decide +kernel))).trans (q_br)
theorem e161_15 : mr161 S P 15 L st sh M c s = (q_isA (q_gv L 0) ∧ mr161 S P 16 L (q_gv L 0 :: st) sh M c s) := (propext (mv_R_iff (i := .aload_n 0) (len := 1) (ax := []) (by decide +kernel))).trans (q_ldA_eq (K := fun st => mr161 S P 16 L st sh M c s))
theorem e161_16 {a : Nat} : mr161 S P 16 L (.ref a :: st) sh M c s = (mv_kgf sh M a 5 8 (mr161 S P) 19 L st c s) := propext (mv_R_iff (i := .getfield 22) (len := 3) (ax := [1033, 0, 5, 8]) (by decide +kernel))
theorem e161_19 : mr161 S P 19 L st sh M c s = (q_isI (q_gv L 2) ∧ mr161 S P 20 L (q_gv L 2 :: st) sh M c s) := (propext (mv_R_iff (i := .iload_n 2) (len := 1) (ax := []) (by decide +kernel))).trans (q_ldI_eq (K := fun st => mr161 S P 20 L st sh M c s))
theorem e161_20 {i : Int32} {a : Nat} : mr161 S P 20 L (.int i :: .ref a :: st) sh M c s = (mv_kld sh M a i (mr161 S P) 21 L st c s) := propext (mv_R_iff (i := .iaload) (len := 1) (ax := []) (by decide +kernel))
theorem e161_21 : mr161 S P 21 L st sh M c s = (q_isI (q_gv L 5) ∧ mr161 S P 23 L (q_gv L 5 :: st) sh M c s) := (propext (mv_R_iff (i := .iload 5) (len := 2) (ax := []) (by decide +kernel))).trans (q_ldI_eq (K := fun st => mr161 S P 23 L st sh M c s))
theorem e161_23 {v2 : Value} {v1 : Value} : mr161 S P 23 L (v2 :: v1 :: st) sh M c s = (mv_ss st ≤ 8 ∧ c ≤ 0 ∧ s ≤ 0 ∧ True ∧ mv_kal S 148 [v1, v2] sh M (mr161 S P) 26 L st c s) := (propext (mv_R_iff (i := .invokestatic 124) (len := 3) (ax := [3, 148, 2, 0, 0, 0, 0, 1014, 1015, 119, 1016]) (by decide +kernel))).trans (q_call3)
theorem e161_26 {x : Int32} : mr161 S P 26 L (.int x :: st) sh M c s = (q_hs L 6 ∧ mr161 S P 28 (L.set 6 (some (.int x))) st sh M c s) := (propext (mv_R_iff (i := .istore 6) (len := 2) (ax := []) (by decide +kernel))).trans (q_st_eq (K := fun L => mr161 S P 28 L st sh M c s))
theorem e161_28 : mr161 S P 28 L st sh M c s = (q_isI (q_gv L 4) ∧ mr161 S P 30 L (q_gv L 4 :: st) sh M c s) := (propext (mv_R_iff (i := .iload 4) (len := 2) (ax := []) (by decide +kernel))).trans (q_ldI_eq (K := fun st => mr161 S P 30 L st sh M c s))
theorem e161_30 : mr161 S P 30 L st sh M c s = (q_isI (q_gv L 6) ∧ mr161 S P 32 L (q_gv L 6 :: st) sh M c s) := (propext (mv_R_iff (i := .iload 6) (len := 2) (ax := []) (by decide +kernel))).trans (q_ldI_eq (K := fun st => mr161 S P 32 L st sh M c s))
theorem e161_32 {x : Int32} : mr161 S P 32 L (.int x :: st) sh M c s = (if x = nI 0 then mr161 S P 50 L st sh M c s else mr161 S P 35 L st sh M c s) := (propext (mv_R_iff (i := .ifCond .eq 18) (len := 3) (ax := [50]) (by decide +kernel))).trans (q_br)
theorem e161_35 : mr161 S P 35 L st sh M c s = (q_isA (q_gv L 0) ∧ mr161 S P 36 L (q_gv L 0 :: st) sh M c s) := (propext (mv_R_iff (i := .aload_n 0) (len := 1) (ax := []) (by decide +kernel))).trans (q_ldA_eq (K := fun st => mr161 S P 36 L st sh M c s))
theorem e161_36 : mr161 S P 36 L st sh M c s = (q_isI (q_gv L 1) ∧ mr161 S P 37 L (q_gv L 1 :: st) sh M c s) := (propext (mv_R_iff (i := .iload_n 1) (len := 1) (ax := []) (by decide +kernel))).trans (q_ldI_eq (K := fun st => mr161 S P 37 L st sh M c s))
theorem e161_37 : mr161 S P 37 L st sh M c s = (q_isI (q_gv L 5) ∧ mr161 S P 39 L (q_gv L 5 :: st) sh M c s) := (propext (mv_R_iff (i := .iload 5) (len := 2) (ax := []) (by decide +kernel))).trans (q_ldI_eq (K := fun st => mr161 S P 39 L st sh M c s))
theorem e161_39 : mr161 S P 39 L st sh M c s = (q_isI (q_gv L 3) ∧ mr161 S P 40 L (q_gv L 3 :: st) sh M c s) := (propext (mv_R_iff (i := .iload_n 3) (len := 1) (ax := []) (by decide +kernel))).trans (q_ldI_eq (K := fun st => mr161 S P 40 L st sh M c s))
theorem e161_40 {v4 : Value} {v3 : Value} {v2 : Value} {v1 : Value} : mr161 S P 40 L (v4 :: v3 :: v2 :: v1 :: st) sh M c s = (mv_ss st ≤ 8 ∧ c ≤ 0 ∧ s ≤ 0 ∧ mv_isO sh (some v1) 5 ∧ mv_kal S 159 [v1, v2, v3, v4] sh M (mr161 S P) 43 L st c s) := (propext (mv_R_iff (i := .invokevirtual 176) (len := 3) (ax := [0, 159, 4, 5, 0, 0, 0, 1227, 1229, 88, 119, 1230]) (by decide +kernel))).trans (q_call0)
theorem e161_43 {x : Int32} : mr161 S P 43 L (.int x :: st) sh M c s = (if x = nI 0 then mr161 S P 50 L st sh M c s else mr161 S P 46 L st sh M c s) := (propext (mv_R_iff (i := .ifCond .eq 7) (len := 3) (ax := [50]) (by decide +kernel))).trans (q_br)
theorem e161_46 : mr161 S P 46 L st sh M c s = (mr161 S P 47 L (.int (nI 1) :: st) sh M c s) := propext (mv_R_iff (i := .iconst 1) (len := 1) (ax := []) (by decide +kernel))
theorem e161_47 : mr161 S P 47 L st sh M c s = (mr161 S P 51 L st sh M c s) := propext (mv_R_iff (i := .goto 4) (len := 3) (ax := [51]) (by decide +kernel))
theorem e161_50 : mr161 S P 50 L st sh M c s = (mr161 S P 51 L (.int (nI 0) :: st) sh M c s) := propext (mv_R_iff (i := .iconst 0) (len := 1) (ax := []) (by decide +kernel))
theorem e161_51 {y : Int32} {x : Int32} : mr161 S P 51 L (.int y :: .int x :: st) sh M c s = (mr161 S P 52 L (.int (x + y) :: st) sh M c s) := propext (mv_R_iff (i := .iadd) (len := 1) (ax := []) (by decide +kernel))
theorem e161_52 {x : Int32} : mr161 S P 52 L (.int x :: st) sh M c s = (q_hs L 4 ∧ mr161 S P 54 (L.set 4 (some (.int x))) st sh M c s) := (propext (mv_R_iff (i := .istore 4) (len := 2) (ax := []) (by decide +kernel))).trans (q_st_eq (K := fun L => mr161 S P 54 L st sh M c s))
theorem e161_54 : mr161 S P 54 L st sh M c s = (q_isI (q_gv L 6) ∧ mr161 S P 56 L (q_gv L 6 :: st) sh M c s) := (propext (mv_R_iff (i := .iload 6) (len := 2) (ax := []) (by decide +kernel))).trans (q_ldI_eq (K := fun st => mr161 S P 56 L st sh M c s))
theorem e161_56 {x : Int32} : mr161 S P 56 L (.int x :: st) sh M c s = (if x = nI 0 then mr161 S P 74 L st sh M c s else mr161 S P 59 L st sh M c s) := (propext (mv_R_iff (i := .ifCond .eq 18) (len := 3) (ax := [74]) (by decide +kernel))).trans (q_br)
theorem e161_59 : mr161 S P 59 L st sh M c s = (q_isA (q_gv L 0) ∧ mr161 S P 60 L (q_gv L 0 :: st) sh M c s) := (propext (mv_R_iff (i := .aload_n 0) (len := 1) (ax := []) (by decide +kernel))).trans (q_ldA_eq (K := fun st => mr161 S P 60 L st sh M c s))
theorem e161_60 : mr161 S P 60 L st sh M c s = (q_isI (q_gv L 1) ∧ mr161 S P 61 L (q_gv L 1 :: st) sh M c s) := (propext (mv_R_iff (i := .iload_n 1) (len := 1) (ax := []) (by decide +kernel))).trans (q_ldI_eq (K := fun st => mr161 S P 61 L st sh M c s))
theorem e161_61 : mr161 S P 61 L st sh M c s = (q_isI (q_gv L 5) ∧ mr161 S P 63 L (q_gv L 5 :: st) sh M c s) := (propext (mv_R_iff (i := .iload 5) (len := 2) (ax := []) (by decide +kernel))).trans (q_ldI_eq (K := fun st => mr161 S P 63 L st sh M c s))
theorem e161_63 : mr161 S P 63 L st sh M c s = (q_isI (q_gv L 3) ∧ mr161 S P 64 L (q_gv L 3 :: st) sh M c s) := (propext (mv_R_iff (i := .iload_n 3) (len := 1) (ax := []) (by decide +kernel))).trans (q_ldI_eq (K := fun st => mr161 S P 64 L st sh M c s))
theorem e161_64 {v4 : Value} {v3 : Value} {v2 : Value} {v1 : Value} : mr161 S P 64 L (v4 :: v3 :: v2 :: v1 :: st) sh M c s = (mv_ss st ≤ 8 ∧ c ≤ 0 ∧ s ≤ 0 ∧ mv_isO sh (some v1) 5 ∧ mv_kal S 160 [v1, v2, v3, v4] sh M (mr161 S P) 67 L st c s) := (propext (mv_R_iff (i := .invokevirtual 183) (len := 3) (ax := [0, 160, 4, 5, 0, 0, 0, 1235, 1237, 90, 119, 1238]) (by decide +kernel))).trans (q_call0)
theorem e161_67 {x : Int32} : mr161 S P 67 L (.int x :: st) sh M c s = (if x = nI 0 then mr161 S P 74 L st sh M c s else mr161 S P 70 L st sh M c s) := (propext (mv_R_iff (i := .ifCond .eq 7) (len := 3) (ax := [74]) (by decide +kernel))).trans (q_br)
theorem e161_70 : mr161 S P 70 L st sh M c s = (mr161 S P 71 L (.int (nI 1) :: st) sh M c s) := propext (mv_R_iff (i := .iconst 1) (len := 1) (ax := []) (by decide +kernel))
theorem e161_71 : mr161 S P 71 L st sh M c s = (mr161 S P 75 L st sh M c s) := propext (mv_R_iff (i := .goto 4) (len := 3) (ax := [75]) (by decide +kernel))
theorem e161_74 : mr161 S P 74 L st sh M c s = (mr161 S P 75 L (.int (nI 0) :: st) sh M c s) := propext (mv_R_iff (i := .iconst 0) (len := 1) (ax := []) (by decide +kernel))
theorem e161_75 {x : Int32} : mr161 S P 75 L (.int x :: st) sh M c s = (q_hs L 7 ∧ mr161 S P 77 (L.set 7 (some (.int x))) st sh M c s) := (propext (mv_R_iff (i := .istore 7) (len := 2) (ax := []) (by decide +kernel))).trans (q_st_eq (K := fun L => mr161 S P 77 L st sh M c s))
theorem e161_77 : mr161 S P 77 L st sh M c s = (q_isA (q_gv L 0) ∧ mr161 S P 78 L (q_gv L 0 :: st) sh M c s) := (propext (mv_R_iff (i := .aload_n 0) (len := 1) (ax := []) (by decide +kernel))).trans (q_ldA_eq (K := fun st => mr161 S P 78 L st sh M c s))
theorem e161_78 {a : Nat} : mr161 S P 78 L (.ref a :: st) sh M c s = (mv_kgf sh M a 5 0 (mr161 S P) 81 L st c s) := propext (mv_R_iff (i := .getfield 7) (len := 3) (ax := [1025, 0, 5, 0]) (by decide +kernel))
theorem e161_81 : mr161 S P 81 L st sh M c s = (q_isI (q_gv L 1) ∧ mr161 S P 82 L (q_gv L 1 :: st) sh M c s) := (propext (mv_R_iff (i := .iload_n 1) (len := 1) (ax := []) (by decide +kernel))).trans (q_ldI_eq (K := fun st => mr161 S P 82 L st sh M c s))
theorem e161_82 : mr161 S P 82 L st sh M c s = (mr161 S P 84 L (.int (nI 18) :: st) sh M c s) := propext (mv_R_iff (i := .bipush 18) (len := 2) (ax := []) (by decide +kernel))
theorem e161_84 {y : Int32} {x : Int32} : mr161 S P 84 L (.int y :: .int x :: st) sh M c s = (mr161 S P 85 L (.int (x + y) :: st) sh M c s) := propext (mv_R_iff (i := .iadd) (len := 1) (ax := []) (by decide +kernel))
theorem e161_85 : mr161 S P 85 L st sh M c s = (q_isI (q_gv L 5) ∧ mr161 S P 87 L (q_gv L 5 :: st) sh M c s) := (propext (mv_R_iff (i := .iload 5) (len := 2) (ax := []) (by decide +kernel))).trans (q_ldI_eq (K := fun st => mr161 S P 87 L st sh M c s))
theorem e161_87 {y : Int32} {x : Int32} : mr161 S P 87 L (.int y :: .int x :: st) sh M c s = (mr161 S P 88 L (.int (x + y) :: st) sh M c s) := propext (mv_R_iff (i := .iadd) (len := 1) (ax := []) (by decide +kernel))
theorem e161_88 {i : Int32} {a : Nat} : mr161 S P 88 L (.int i :: .ref a :: st) sh M c s = (mv_kld sh M a i (mr161 S P) 89 L st c s) := propext (mv_R_iff (i := .iaload) (len := 1) (ax := []) (by decide +kernel))
theorem e161_89 {x : Int32} : mr161 S P 89 L (.int x :: st) sh M c s = (q_hs L 8 ∧ mr161 S P 91 (L.set 8 (some (.int x))) st sh M c s) := (propext (mv_R_iff (i := .istore 8) (len := 2) (ax := []) (by decide +kernel))).trans (q_st_eq (K := fun L => mr161 S P 91 L st sh M c s))
theorem e161_91 : mr161 S P 91 L st sh M c s = (q_isA (q_gv L 0) ∧ mr161 S P 92 L (q_gv L 0 :: st) sh M c s) := (propext (mv_R_iff (i := .aload_n 0) (len := 1) (ax := []) (by decide +kernel))).trans (q_ldA_eq (K := fun st => mr161 S P 92 L st sh M c s))
theorem e161_92 {a : Nat} : mr161 S P 92 L (.ref a :: st) sh M c s = (mv_kgf sh M a 5 0 (mr161 S P) 95 L st c s) := propext (mv_R_iff (i := .getfield 7) (len := 3) (ax := [1025, 0, 5, 0]) (by decide +kernel))
theorem e161_95 : mr161 S P 95 L st sh M c s = (q_isI (q_gv L 1) ∧ mr161 S P 96 L (q_gv L 1 :: st) sh M c s) := (propext (mv_R_iff (i := .iload_n 1) (len := 1) (ax := []) (by decide +kernel))).trans (q_ldI_eq (K := fun st => mr161 S P 96 L st sh M c s))
theorem e161_96 : mr161 S P 96 L st sh M c s = (mr161 S P 98 L (.int (nI 18) :: st) sh M c s) := propext (mv_R_iff (i := .bipush 18) (len := 2) (ax := []) (by decide +kernel))
theorem e161_98 {y : Int32} {x : Int32} : mr161 S P 98 L (.int y :: .int x :: st) sh M c s = (mr161 S P 99 L (.int (x + y) :: st) sh M c s) := propext (mv_R_iff (i := .iadd) (len := 1) (ax := []) (by decide +kernel))
theorem e161_99 : mr161 S P 99 L st sh M c s = (q_isI (q_gv L 5) ∧ mr161 S P 101 L (q_gv L 5 :: st) sh M c s) := (propext (mv_R_iff (i := .iload 5) (len := 2) (ax := []) (by decide +kernel))).trans (q_ldI_eq (K := fun st => mr161 S P 101 L st sh M c s))
theorem e161_101 {y : Int32} {x : Int32} : mr161 S P 101 L (.int y :: .int x :: st) sh M c s = (mr161 S P 102 L (.int (x + y) :: st) sh M c s) := propext (mv_R_iff (i := .iadd) (len := 1) (ax := []) (by decide +kernel))
theorem e161_102 : mr161 S P 102 L st sh M c s = (q_isI (q_gv L 7) ∧ mr161 S P 104 L (q_gv L 7 :: st) sh M c s) := (propext (mv_R_iff (i := .iload 7) (len := 2) (ax := []) (by decide +kernel))).trans (q_ldI_eq (K := fun st => mr161 S P 104 L st sh M c s))
theorem e161_104 {x : Int32} : mr161 S P 104 L (.int x :: st) sh M c s = (if x = nI 0 then mr161 S P 111 L st sh M c s else mr161 S P 107 L st sh M c s) := (propext (mv_R_iff (i := .ifCond .eq 7) (len := 3) (ax := [111]) (by decide +kernel))).trans (q_br)
theorem e161_107 : mr161 S P 107 L st sh M c s = (mr161 S P 108 L (.int (nI 0) :: st) sh M c s) := propext (mv_R_iff (i := .iconst 0) (len := 1) (ax := []) (by decide +kernel))
theorem e161_108 : mr161 S P 108 L st sh M c s = (mr161 S P 127 L st sh M c s) := propext (mv_R_iff (i := .goto 19) (len := 3) (ax := [127]) (by decide +kernel))
theorem e161_111 : mr161 S P 111 L st sh M c s = (q_isI (q_gv L 8) ∧ mr161 S P 113 L (q_gv L 8 :: st) sh M c s) := (propext (mv_R_iff (i := .iload 8) (len := 2) (ax := []) (by decide +kernel))).trans (q_ldI_eq (K := fun st => mr161 S P 113 L st sh M c s))
theorem e161_113 : mr161 S P 113 L st sh M c s = (mr161 S P 115 L (.int (nI 99) :: st) sh M c s) := propext (mv_R_iff (i := .bipush 99) (len := 2) (ax := []) (by decide +kernel))
theorem e161_115 {y : Int32} {x : Int32} : mr161 S P 115 L (.int y :: .int x :: st) sh M c s = (if x = y then mr161 S P 118 L st sh M c s else mr161 S P 123 L st sh M c s) := (propext (mv_R_iff (i := .if_icmp .ne 8) (len := 3) (ax := [123]) (by decide +kernel))).trans (q_br')
theorem e161_118 : mr161 S P 118 L st sh M c s = (mr161 S P 120 L (.int (nI 99) :: st) sh M c s) := propext (mv_R_iff (i := .bipush 99) (len := 2) (ax := []) (by decide +kernel))
theorem e161_120 : mr161 S P 120 L st sh M c s = (mr161 S P 127 L st sh M c s) := propext (mv_R_iff (i := .goto 7) (len := 3) (ax := [127]) (by decide +kernel))
theorem e161_123 : mr161 S P 123 L st sh M c s = (q_isI (q_gv L 8) ∧ mr161 S P 125 L (q_gv L 8 :: st) sh M c s) := (propext (mv_R_iff (i := .iload 8) (len := 2) (ax := []) (by decide +kernel))).trans (q_ldI_eq (K := fun st => mr161 S P 125 L st sh M c s))
theorem e161_125 : mr161 S P 125 L st sh M c s = (mr161 S P 126 L (.int (nI 1) :: st) sh M c s) := propext (mv_R_iff (i := .iconst 1) (len := 1) (ax := []) (by decide +kernel))
theorem e161_126 {y : Int32} {x : Int32} : mr161 S P 126 L (.int y :: .int x :: st) sh M c s = (mr161 S P 127 L (.int (x + y) :: st) sh M c s) := propext (mv_R_iff (i := .iadd) (len := 1) (ax := []) (by decide +kernel))
theorem e161_127 {x : Int32} {i : Int32} {a : Nat} : mr161 S P 127 L (.int x :: .int i :: .ref a :: st) sh M c s = (mv_kst sh M a i x (mr161 S P) 128 L st c s) := propext (mv_R_iff (i := .iastore) (len := 1) (ax := []) (by decide +kernel))
theorem e161_128 : mr161 S P 128 L st sh M c s = ((q_isI (q_gv L 5) ∧ q_hs L 5) ∧ mr161 S P 131 (L.set 5 (some (q_inc (q_gv L 5) (nI 1)))) st sh M c s) := (propext (mv_R_iff (i := .iinc 5 1) (len := 3) (ax := []) (by decide +kernel))).trans (q_inc_eq (K := fun L => mr161 S P 131 L st sh M c s))
theorem e161_131 : mr161 S P 131 L st sh M c s = (mr161 S P 6 L st sh M c s) := propext (mv_R_iff (i := .goto (-125)) (len := 3) (ax := [6]) (by decide +kernel))
theorem e161_134 : mr161 S P 134 L st sh M c s = (q_isI (q_gv L 4) ∧ mr161 S P 136 L (q_gv L 4 :: st) sh M c s) := (propext (mv_R_iff (i := .iload 4) (len := 2) (ax := []) (by decide +kernel))).trans (q_ldI_eq (K := fun st => mr161 S P 136 L st sh M c s))
theorem e161_136 {x : Int32} : mr161 S P 136 L [.int x] sh M c s = (mv_nr 0 x ∧ P (some (.int x)) sh M) := propext (mv_R_iff (i := .ireturn) (len := 1) (ax := [0]) (by decide +kernel))
-- 162: TurnedTabletsModel.coloursAt(I)I
def mk162 : mv_Cd := [
  (0, .iconst 0, 1, []),
  (1, .istore_n 2, 1, []),
  (2, .iconst 0, 1, []),
  (3, .istore_n 3, 1, []),
  (4, .iload_n 3, 1, []),
  (5, .aload_n 0, 1, []),
  (6, .getfield 151, 3, [1028, 0, 5, 3]),
  (9, .if_icmp .ge 35, 3, [44]),
  (12, .bipush 10, 2, []),
  (14, .iload_n 2, 1, []),
  (15, .imul, 1, []),
  (16, .aload_n 0, 1, []),
  (17, .getfield 16, 3, [1030, 0, 5, 5]),
  (20, .iconst 4, 1, []),
  (21, .iload_n 3, 1, []),
  (22, .imul, 1, []),
  (23, .aload_n 0, 1, []),
  (24, .getfield 7, 3, [1025, 0, 5, 0]),
  (27, .iload_n 1, 1, []),
  (28, .bipush 6, 2, []),
  (30, .iadd, 1, []),
  (31, .iload_n 3, 1, []),
  (32, .iadd, 1, []),
  (33, .iaload, 1, []),
  (34, .iadd, 1, []),
  (35, .iaload, 1, []),
  (36, .iadd, 1, []),
  (37, .istore_n 2, 1, []),
  (38, .iinc 3 1, 3, []),
  (41, .goto (-37), 3, [4]),
  (44, .iload_n 2, 1, []),
  (45, .ireturn, 1, [0])]
def mr162 (S : Nat → mv_Sp) (P : mv_Post) : mv_Kt := mv_R mv_DF mk162 S (0, 0) P
theorem e162_0 : mr162 S P 0 L st sh M c s = (mr162 S P 1 L (.int (nI 0) :: st) sh M c s) := propext (mv_R_iff (i := .iconst 0) (len := 1) (ax := []) (by decide +kernel))
theorem e162_1 {x : Int32} : mr162 S P 1 L (.int x :: st) sh M c s = (q_hs L 2 ∧ mr162 S P 2 (L.set 2 (some (.int x))) st sh M c s) := (propext (mv_R_iff (i := .istore_n 2) (len := 1) (ax := []) (by decide +kernel))).trans (q_st_eq (K := fun L => mr162 S P 2 L st sh M c s))
theorem e162_2 : mr162 S P 2 L st sh M c s = (mr162 S P 3 L (.int (nI 0) :: st) sh M c s) := propext (mv_R_iff (i := .iconst 0) (len := 1) (ax := []) (by decide +kernel))
theorem e162_3 {x : Int32} : mr162 S P 3 L (.int x :: st) sh M c s = (q_hs L 3 ∧ mr162 S P 4 (L.set 3 (some (.int x))) st sh M c s) := (propext (mv_R_iff (i := .istore_n 3) (len := 1) (ax := []) (by decide +kernel))).trans (q_st_eq (K := fun L => mr162 S P 4 L st sh M c s))
theorem e162_4 : mr162 S P 4 L st sh M c s = (q_isI (q_gv L 3) ∧ mr162 S P 5 L (q_gv L 3 :: st) sh M c s) := (propext (mv_R_iff (i := .iload_n 3) (len := 1) (ax := []) (by decide +kernel))).trans (q_ldI_eq (K := fun st => mr162 S P 5 L st sh M c s))
theorem e162_5 : mr162 S P 5 L st sh M c s = (q_isA (q_gv L 0) ∧ mr162 S P 6 L (q_gv L 0 :: st) sh M c s) := (propext (mv_R_iff (i := .aload_n 0) (len := 1) (ax := []) (by decide +kernel))).trans (q_ldA_eq (K := fun st => mr162 S P 6 L st sh M c s))
theorem e162_6 {a : Nat} : mr162 S P 6 L (.ref a :: st) sh M c s = (mv_kgf sh M a 5 3 (mr162 S P) 9 L st c s) := propext (mv_R_iff (i := .getfield 151) (len := 3) (ax := [1028, 0, 5, 3]) (by decide +kernel))
theorem e162_9 {y : Int32} {x : Int32} : mr162 S P 9 L (.int y :: .int x :: st) sh M c s = (if y ≤ x then mr162 S P 44 L st sh M c s else mr162 S P 12 L st sh M c s) := (propext (mv_R_iff (i := .if_icmp .ge 35) (len := 3) (ax := [44]) (by decide +kernel))).trans (q_br)
theorem e162_12 : mr162 S P 12 L st sh M c s = (mr162 S P 14 L (.int (nI 10) :: st) sh M c s) := propext (mv_R_iff (i := .bipush 10) (len := 2) (ax := []) (by decide +kernel))
theorem e162_14 : mr162 S P 14 L st sh M c s = (q_isI (q_gv L 2) ∧ mr162 S P 15 L (q_gv L 2 :: st) sh M c s) := (propext (mv_R_iff (i := .iload_n 2) (len := 1) (ax := []) (by decide +kernel))).trans (q_ldI_eq (K := fun st => mr162 S P 15 L st sh M c s))
theorem e162_15 {y : Int32} {x : Int32} : mr162 S P 15 L (.int y :: .int x :: st) sh M c s = (mr162 S P 16 L (.int (x * y) :: st) sh M c s) := propext (mv_R_iff (i := .imul) (len := 1) (ax := []) (by decide +kernel))
theorem e162_16 : mr162 S P 16 L st sh M c s = (q_isA (q_gv L 0) ∧ mr162 S P 17 L (q_gv L 0 :: st) sh M c s) := (propext (mv_R_iff (i := .aload_n 0) (len := 1) (ax := []) (by decide +kernel))).trans (q_ldA_eq (K := fun st => mr162 S P 17 L st sh M c s))
theorem e162_17 {a : Nat} : mr162 S P 17 L (.ref a :: st) sh M c s = (mv_kgf sh M a 5 5 (mr162 S P) 20 L st c s) := propext (mv_R_iff (i := .getfield 16) (len := 3) (ax := [1030, 0, 5, 5]) (by decide +kernel))
theorem e162_20 : mr162 S P 20 L st sh M c s = (mr162 S P 21 L (.int (nI 4) :: st) sh M c s) := propext (mv_R_iff (i := .iconst 4) (len := 1) (ax := []) (by decide +kernel))
theorem e162_21 : mr162 S P 21 L st sh M c s = (q_isI (q_gv L 3) ∧ mr162 S P 22 L (q_gv L 3 :: st) sh M c s) := (propext (mv_R_iff (i := .iload_n 3) (len := 1) (ax := []) (by decide +kernel))).trans (q_ldI_eq (K := fun st => mr162 S P 22 L st sh M c s))
theorem e162_22 {y : Int32} {x : Int32} : mr162 S P 22 L (.int y :: .int x :: st) sh M c s = (mr162 S P 23 L (.int (x * y) :: st) sh M c s) := propext (mv_R_iff (i := .imul) (len := 1) (ax := []) (by decide +kernel))
theorem e162_23 : mr162 S P 23 L st sh M c s = (q_isA (q_gv L 0) ∧ mr162 S P 24 L (q_gv L 0 :: st) sh M c s) := (propext (mv_R_iff (i := .aload_n 0) (len := 1) (ax := []) (by decide +kernel))).trans (q_ldA_eq (K := fun st => mr162 S P 24 L st sh M c s))
theorem e162_24 {a : Nat} : mr162 S P 24 L (.ref a :: st) sh M c s = (mv_kgf sh M a 5 0 (mr162 S P) 27 L st c s) := propext (mv_R_iff (i := .getfield 7) (len := 3) (ax := [1025, 0, 5, 0]) (by decide +kernel))
theorem e162_27 : mr162 S P 27 L st sh M c s = (q_isI (q_gv L 1) ∧ mr162 S P 28 L (q_gv L 1 :: st) sh M c s) := (propext (mv_R_iff (i := .iload_n 1) (len := 1) (ax := []) (by decide +kernel))).trans (q_ldI_eq (K := fun st => mr162 S P 28 L st sh M c s))
theorem e162_28 : mr162 S P 28 L st sh M c s = (mr162 S P 30 L (.int (nI 6) :: st) sh M c s) := propext (mv_R_iff (i := .bipush 6) (len := 2) (ax := []) (by decide +kernel))
theorem e162_30 {y : Int32} {x : Int32} : mr162 S P 30 L (.int y :: .int x :: st) sh M c s = (mr162 S P 31 L (.int (x + y) :: st) sh M c s) := propext (mv_R_iff (i := .iadd) (len := 1) (ax := []) (by decide +kernel))
theorem e162_31 : mr162 S P 31 L st sh M c s = (q_isI (q_gv L 3) ∧ mr162 S P 32 L (q_gv L 3 :: st) sh M c s) := (propext (mv_R_iff (i := .iload_n 3) (len := 1) (ax := []) (by decide +kernel))).trans (q_ldI_eq (K := fun st => mr162 S P 32 L st sh M c s))
theorem e162_32 {y : Int32} {x : Int32} : mr162 S P 32 L (.int y :: .int x :: st) sh M c s = (mr162 S P 33 L (.int (x + y) :: st) sh M c s) := propext (mv_R_iff (i := .iadd) (len := 1) (ax := []) (by decide +kernel))
theorem e162_33 {i : Int32} {a : Nat} : mr162 S P 33 L (.int i :: .ref a :: st) sh M c s = (mv_kld sh M a i (mr162 S P) 34 L st c s) := propext (mv_R_iff (i := .iaload) (len := 1) (ax := []) (by decide +kernel))
theorem e162_34 {y : Int32} {x : Int32} : mr162 S P 34 L (.int y :: .int x :: st) sh M c s = (mr162 S P 35 L (.int (x + y) :: st) sh M c s) := propext (mv_R_iff (i := .iadd) (len := 1) (ax := []) (by decide +kernel))
theorem e162_35 {i : Int32} {a : Nat} : mr162 S P 35 L (.int i :: .ref a :: st) sh M c s = (mv_kld sh M a i (mr162 S P) 36 L st c s) := propext (mv_R_iff (i := .iaload) (len := 1) (ax := []) (by decide +kernel))
theorem e162_36 {y : Int32} {x : Int32} : mr162 S P 36 L (.int y :: .int x :: st) sh M c s = (mr162 S P 37 L (.int (x + y) :: st) sh M c s) := propext (mv_R_iff (i := .iadd) (len := 1) (ax := []) (by decide +kernel))
theorem e162_37 {x : Int32} : mr162 S P 37 L (.int x :: st) sh M c s = (q_hs L 2 ∧ mr162 S P 38 (L.set 2 (some (.int x))) st sh M c s) := (propext (mv_R_iff (i := .istore_n 2) (len := 1) (ax := []) (by decide +kernel))).trans (q_st_eq (K := fun L => mr162 S P 38 L st sh M c s))
theorem e162_38 : mr162 S P 38 L st sh M c s = ((q_isI (q_gv L 3) ∧ q_hs L 3) ∧ mr162 S P 41 (L.set 3 (some (q_inc (q_gv L 3) (nI 1)))) st sh M c s) := (propext (mv_R_iff (i := .iinc 3 1) (len := 3) (ax := []) (by decide +kernel))).trans (q_inc_eq (K := fun L => mr162 S P 41 L st sh M c s))
theorem e162_41 : mr162 S P 41 L st sh M c s = (mr162 S P 4 L st sh M c s) := propext (mv_R_iff (i := .goto (-37)) (len := 3) (ax := [4]) (by decide +kernel))
theorem e162_44 : mr162 S P 44 L st sh M c s = (q_isI (q_gv L 2) ∧ mr162 S P 45 L (q_gv L 2 :: st) sh M c s) := (propext (mv_R_iff (i := .iload_n 2) (len := 1) (ax := []) (by decide +kernel))).trans (q_ldI_eq (K := fun st => mr162 S P 45 L st sh M c s))
theorem e162_45 {x : Int32} : mr162 S P 45 L [.int x] sh M c s = (mv_nr 0 x ∧ P (some (.int x)) sh M) := propext (mv_R_iff (i := .ireturn) (len := 1) (ax := [0]) (by decide +kernel))
-- 163: TurnedTabletsModel.slantOf(II)I
def mk163 : mv_Cd := [
  (0, .aload_n 0, 1, []),
  (1, .getfield 7, 3, [1025, 0, 5, 0]),
  (4, .iload_n 1, 1, []),
  (5, .bipush 24, 2, []),
  (7, .iadd, 1, []),
  (8, .iload_n 2, 1, []),
  (9, .iadd, 1, []),
  (10, .iaload, 1, []),
  (11, .iconst 1, 1, []),
  (12, .if_icmp .ne 18, 3, [30]),
  (15, .iconst 1, 1, []),
  (16, .aload_n 0, 1, []),
  (17, .getfield 7, 3, [1025, 0, 5, 0]),
  (20, .iload_n 1, 1, []),
  (21, .iconst 0, 1, []),
  (22, .iadd, 1, []),
  (23, .iload_n 2, 1, []),
  (24, .iadd, 1, []),
  (25, .iaload, 1, []),
  (26, .isub, 1, []),
  (27, .goto 13, 3, [40]),
  (30, .aload_n 0, 1, []),
  (31, .getfield 7, 3, [1025, 0, 5, 0]),
  (34, .iload_n 1, 1, []),
  (35, .iconst 0, 1, []),
  (36, .iadd, 1, []),
  (37, .iload_n 2, 1, []),
  (38, .iadd, 1, []),
  (39, .iaload, 1, []),
  (40, .ireturn, 1, [0])]
def mr163 (S : Nat → mv_Sp) (P : mv_Post) : mv_Kt := mv_R mv_DF mk163 S (0, 0) P
theorem e163_0 : mr163 S P 0 L st sh M c s = (q_isA (q_gv L 0) ∧ mr163 S P 1 L (q_gv L 0 :: st) sh M c s) := (propext (mv_R_iff (i := .aload_n 0) (len := 1) (ax := []) (by decide +kernel))).trans (q_ldA_eq (K := fun st => mr163 S P 1 L st sh M c s))
theorem e163_1 {a : Nat} : mr163 S P 1 L (.ref a :: st) sh M c s = (mv_kgf sh M a 5 0 (mr163 S P) 4 L st c s) := propext (mv_R_iff (i := .getfield 7) (len := 3) (ax := [1025, 0, 5, 0]) (by decide +kernel))
theorem e163_4 : mr163 S P 4 L st sh M c s = (q_isI (q_gv L 1) ∧ mr163 S P 5 L (q_gv L 1 :: st) sh M c s) := (propext (mv_R_iff (i := .iload_n 1) (len := 1) (ax := []) (by decide +kernel))).trans (q_ldI_eq (K := fun st => mr163 S P 5 L st sh M c s))
theorem e163_5 : mr163 S P 5 L st sh M c s = (mr163 S P 7 L (.int (nI 24) :: st) sh M c s) := propext (mv_R_iff (i := .bipush 24) (len := 2) (ax := []) (by decide +kernel))
theorem e163_7 {y : Int32} {x : Int32} : mr163 S P 7 L (.int y :: .int x :: st) sh M c s = (mr163 S P 8 L (.int (x + y) :: st) sh M c s) := propext (mv_R_iff (i := .iadd) (len := 1) (ax := []) (by decide +kernel))
theorem e163_8 : mr163 S P 8 L st sh M c s = (q_isI (q_gv L 2) ∧ mr163 S P 9 L (q_gv L 2 :: st) sh M c s) := (propext (mv_R_iff (i := .iload_n 2) (len := 1) (ax := []) (by decide +kernel))).trans (q_ldI_eq (K := fun st => mr163 S P 9 L st sh M c s))
theorem e163_9 {y : Int32} {x : Int32} : mr163 S P 9 L (.int y :: .int x :: st) sh M c s = (mr163 S P 10 L (.int (x + y) :: st) sh M c s) := propext (mv_R_iff (i := .iadd) (len := 1) (ax := []) (by decide +kernel))
theorem e163_10 {i : Int32} {a : Nat} : mr163 S P 10 L (.int i :: .ref a :: st) sh M c s = (mv_kld sh M a i (mr163 S P) 11 L st c s) := propext (mv_R_iff (i := .iaload) (len := 1) (ax := []) (by decide +kernel))
theorem e163_11 : mr163 S P 11 L st sh M c s = (mr163 S P 12 L (.int (nI 1) :: st) sh M c s) := propext (mv_R_iff (i := .iconst 1) (len := 1) (ax := []) (by decide +kernel))
theorem e163_12 {y : Int32} {x : Int32} : mr163 S P 12 L (.int y :: .int x :: st) sh M c s = (if x = y then mr163 S P 15 L st sh M c s else mr163 S P 30 L st sh M c s) := (propext (mv_R_iff (i := .if_icmp .ne 18) (len := 3) (ax := [30]) (by decide +kernel))).trans (q_br')
theorem e163_15 : mr163 S P 15 L st sh M c s = (mr163 S P 16 L (.int (nI 1) :: st) sh M c s) := propext (mv_R_iff (i := .iconst 1) (len := 1) (ax := []) (by decide +kernel))
theorem e163_16 : mr163 S P 16 L st sh M c s = (q_isA (q_gv L 0) ∧ mr163 S P 17 L (q_gv L 0 :: st) sh M c s) := (propext (mv_R_iff (i := .aload_n 0) (len := 1) (ax := []) (by decide +kernel))).trans (q_ldA_eq (K := fun st => mr163 S P 17 L st sh M c s))
theorem e163_17 {a : Nat} : mr163 S P 17 L (.ref a :: st) sh M c s = (mv_kgf sh M a 5 0 (mr163 S P) 20 L st c s) := propext (mv_R_iff (i := .getfield 7) (len := 3) (ax := [1025, 0, 5, 0]) (by decide +kernel))
theorem e163_20 : mr163 S P 20 L st sh M c s = (q_isI (q_gv L 1) ∧ mr163 S P 21 L (q_gv L 1 :: st) sh M c s) := (propext (mv_R_iff (i := .iload_n 1) (len := 1) (ax := []) (by decide +kernel))).trans (q_ldI_eq (K := fun st => mr163 S P 21 L st sh M c s))
theorem e163_21 : mr163 S P 21 L st sh M c s = (mr163 S P 22 L (.int (nI 0) :: st) sh M c s) := propext (mv_R_iff (i := .iconst 0) (len := 1) (ax := []) (by decide +kernel))
theorem e163_22 {y : Int32} {x : Int32} : mr163 S P 22 L (.int y :: .int x :: st) sh M c s = (mr163 S P 23 L (.int (x + y) :: st) sh M c s) := propext (mv_R_iff (i := .iadd) (len := 1) (ax := []) (by decide +kernel))
theorem e163_23 : mr163 S P 23 L st sh M c s = (q_isI (q_gv L 2) ∧ mr163 S P 24 L (q_gv L 2 :: st) sh M c s) := (propext (mv_R_iff (i := .iload_n 2) (len := 1) (ax := []) (by decide +kernel))).trans (q_ldI_eq (K := fun st => mr163 S P 24 L st sh M c s))
theorem e163_24 {y : Int32} {x : Int32} : mr163 S P 24 L (.int y :: .int x :: st) sh M c s = (mr163 S P 25 L (.int (x + y) :: st) sh M c s) := propext (mv_R_iff (i := .iadd) (len := 1) (ax := []) (by decide +kernel))
theorem e163_25 {i : Int32} {a : Nat} : mr163 S P 25 L (.int i :: .ref a :: st) sh M c s = (mv_kld sh M a i (mr163 S P) 26 L st c s) := propext (mv_R_iff (i := .iaload) (len := 1) (ax := []) (by decide +kernel))
theorem e163_26 {y : Int32} {x : Int32} : mr163 S P 26 L (.int y :: .int x :: st) sh M c s = (mr163 S P 27 L (.int (x - y) :: st) sh M c s) := propext (mv_R_iff (i := .isub) (len := 1) (ax := []) (by decide +kernel))
theorem e163_27 : mr163 S P 27 L st sh M c s = (mr163 S P 40 L st sh M c s) := propext (mv_R_iff (i := .goto 13) (len := 3) (ax := [40]) (by decide +kernel))
theorem e163_30 : mr163 S P 30 L st sh M c s = (q_isA (q_gv L 0) ∧ mr163 S P 31 L (q_gv L 0 :: st) sh M c s) := (propext (mv_R_iff (i := .aload_n 0) (len := 1) (ax := []) (by decide +kernel))).trans (q_ldA_eq (K := fun st => mr163 S P 31 L st sh M c s))
theorem e163_31 {a : Nat} : mr163 S P 31 L (.ref a :: st) sh M c s = (mv_kgf sh M a 5 0 (mr163 S P) 34 L st c s) := propext (mv_R_iff (i := .getfield 7) (len := 3) (ax := [1025, 0, 5, 0]) (by decide +kernel))
theorem e163_34 : mr163 S P 34 L st sh M c s = (q_isI (q_gv L 1) ∧ mr163 S P 35 L (q_gv L 1 :: st) sh M c s) := (propext (mv_R_iff (i := .iload_n 1) (len := 1) (ax := []) (by decide +kernel))).trans (q_ldI_eq (K := fun st => mr163 S P 35 L st sh M c s))
theorem e163_35 : mr163 S P 35 L st sh M c s = (mr163 S P 36 L (.int (nI 0) :: st) sh M c s) := propext (mv_R_iff (i := .iconst 0) (len := 1) (ax := []) (by decide +kernel))
theorem e163_36 {y : Int32} {x : Int32} : mr163 S P 36 L (.int y :: .int x :: st) sh M c s = (mr163 S P 37 L (.int (x + y) :: st) sh M c s) := propext (mv_R_iff (i := .iadd) (len := 1) (ax := []) (by decide +kernel))
theorem e163_37 : mr163 S P 37 L st sh M c s = (q_isI (q_gv L 2) ∧ mr163 S P 38 L (q_gv L 2 :: st) sh M c s) := (propext (mv_R_iff (i := .iload_n 2) (len := 1) (ax := []) (by decide +kernel))).trans (q_ldI_eq (K := fun st => mr163 S P 38 L st sh M c s))
theorem e163_38 {y : Int32} {x : Int32} : mr163 S P 38 L (.int y :: .int x :: st) sh M c s = (mr163 S P 39 L (.int (x + y) :: st) sh M c s) := propext (mv_R_iff (i := .iadd) (len := 1) (ax := []) (by decide +kernel))
theorem e163_39 {i : Int32} {a : Nat} : mr163 S P 39 L (.int i :: .ref a :: st) sh M c s = (mv_kld sh M a i (mr163 S P) 40 L st c s) := propext (mv_R_iff (i := .iaload) (len := 1) (ax := []) (by decide +kernel))
theorem e163_40 {x : Int32} : mr163 S P 40 L [.int x] sh M c s = (mv_nr 0 x ∧ P (some (.int x)) sh M) := propext (mv_R_iff (i := .ireturn) (len := 1) (ax := [0]) (by decide +kernel))
-- 164: TurnedTabletsModel.slantsAt(I)I
def mk164 : mv_Cd := [
  (0, .iconst 0, 1, []),
  (1, .istore_n 2, 1, []),
  (2, .iconst 0, 1, []),
  (3, .istore_n 3, 1, []),
  (4, .iload_n 3, 1, []),
  (5, .aload_n 0, 1, []),
  (6, .getfield 151, 3, [1028, 0, 5, 3]),
  (9, .if_icmp .ge 20, 3, [29]),
  (12, .iload_n 2, 1, []),
  (13, .aload_n 0, 1, []),
  (14, .iload_n 1, 1, []),
  (15, .iload_n 3, 1, []),
  (16, .invokevirtual 180, 3, [0, 163, 3, 5, 0, 0, 0, 1167, 1169, 80, 119, 1170]),
  (19, .iload_n 3, 1, []),
  (20, .ishl, 1, []),
  (21, .ior, 1, []),
  (22, .istore_n 2, 1, []),
  (23, .iinc 3 1, 3, []),
  (26, .goto (-22), 3, [4]),
  (29, .iload_n 2, 1, []),
  (30, .ireturn, 1, [0])]
def mr164 (S : Nat → mv_Sp) (P : mv_Post) : mv_Kt := mv_R mv_DF mk164 S (0, 0) P
theorem e164_0 : mr164 S P 0 L st sh M c s = (mr164 S P 1 L (.int (nI 0) :: st) sh M c s) := propext (mv_R_iff (i := .iconst 0) (len := 1) (ax := []) (by decide +kernel))
theorem e164_1 {x : Int32} : mr164 S P 1 L (.int x :: st) sh M c s = (q_hs L 2 ∧ mr164 S P 2 (L.set 2 (some (.int x))) st sh M c s) := (propext (mv_R_iff (i := .istore_n 2) (len := 1) (ax := []) (by decide +kernel))).trans (q_st_eq (K := fun L => mr164 S P 2 L st sh M c s))
theorem e164_2 : mr164 S P 2 L st sh M c s = (mr164 S P 3 L (.int (nI 0) :: st) sh M c s) := propext (mv_R_iff (i := .iconst 0) (len := 1) (ax := []) (by decide +kernel))
theorem e164_3 {x : Int32} : mr164 S P 3 L (.int x :: st) sh M c s = (q_hs L 3 ∧ mr164 S P 4 (L.set 3 (some (.int x))) st sh M c s) := (propext (mv_R_iff (i := .istore_n 3) (len := 1) (ax := []) (by decide +kernel))).trans (q_st_eq (K := fun L => mr164 S P 4 L st sh M c s))
theorem e164_4 : mr164 S P 4 L st sh M c s = (q_isI (q_gv L 3) ∧ mr164 S P 5 L (q_gv L 3 :: st) sh M c s) := (propext (mv_R_iff (i := .iload_n 3) (len := 1) (ax := []) (by decide +kernel))).trans (q_ldI_eq (K := fun st => mr164 S P 5 L st sh M c s))
theorem e164_5 : mr164 S P 5 L st sh M c s = (q_isA (q_gv L 0) ∧ mr164 S P 6 L (q_gv L 0 :: st) sh M c s) := (propext (mv_R_iff (i := .aload_n 0) (len := 1) (ax := []) (by decide +kernel))).trans (q_ldA_eq (K := fun st => mr164 S P 6 L st sh M c s))
theorem e164_6 {a : Nat} : mr164 S P 6 L (.ref a :: st) sh M c s = (mv_kgf sh M a 5 3 (mr164 S P) 9 L st c s) := propext (mv_R_iff (i := .getfield 151) (len := 3) (ax := [1028, 0, 5, 3]) (by decide +kernel))
theorem e164_9 {y : Int32} {x : Int32} : mr164 S P 9 L (.int y :: .int x :: st) sh M c s = (if y ≤ x then mr164 S P 29 L st sh M c s else mr164 S P 12 L st sh M c s) := (propext (mv_R_iff (i := .if_icmp .ge 20) (len := 3) (ax := [29]) (by decide +kernel))).trans (q_br)
theorem e164_12 : mr164 S P 12 L st sh M c s = (q_isI (q_gv L 2) ∧ mr164 S P 13 L (q_gv L 2 :: st) sh M c s) := (propext (mv_R_iff (i := .iload_n 2) (len := 1) (ax := []) (by decide +kernel))).trans (q_ldI_eq (K := fun st => mr164 S P 13 L st sh M c s))
theorem e164_13 : mr164 S P 13 L st sh M c s = (q_isA (q_gv L 0) ∧ mr164 S P 14 L (q_gv L 0 :: st) sh M c s) := (propext (mv_R_iff (i := .aload_n 0) (len := 1) (ax := []) (by decide +kernel))).trans (q_ldA_eq (K := fun st => mr164 S P 14 L st sh M c s))
theorem e164_14 : mr164 S P 14 L st sh M c s = (q_isI (q_gv L 1) ∧ mr164 S P 15 L (q_gv L 1 :: st) sh M c s) := (propext (mv_R_iff (i := .iload_n 1) (len := 1) (ax := []) (by decide +kernel))).trans (q_ldI_eq (K := fun st => mr164 S P 15 L st sh M c s))
theorem e164_15 : mr164 S P 15 L st sh M c s = (q_isI (q_gv L 3) ∧ mr164 S P 16 L (q_gv L 3 :: st) sh M c s) := (propext (mv_R_iff (i := .iload_n 3) (len := 1) (ax := []) (by decide +kernel))).trans (q_ldI_eq (K := fun st => mr164 S P 16 L st sh M c s))
theorem e164_16 {v3 : Value} {v2 : Value} {v1 : Value} : mr164 S P 16 L (v3 :: v2 :: v1 :: st) sh M c s = (mv_ss st ≤ 8 ∧ c ≤ 0 ∧ s ≤ 0 ∧ mv_isO sh (some v1) 5 ∧ mv_kal S 163 [v1, v2, v3] sh M (mr164 S P) 19 L st c s) := (propext (mv_R_iff (i := .invokevirtual 180) (len := 3) (ax := [0, 163, 3, 5, 0, 0, 0, 1167, 1169, 80, 119, 1170]) (by decide +kernel))).trans (q_call0)
theorem e164_19 : mr164 S P 19 L st sh M c s = (q_isI (q_gv L 3) ∧ mr164 S P 20 L (q_gv L 3 :: st) sh M c s) := (propext (mv_R_iff (i := .iload_n 3) (len := 1) (ax := []) (by decide +kernel))).trans (q_ldI_eq (K := fun st => mr164 S P 20 L st sh M c s))
theorem e164_20 {y : Int32} {x : Int32} : mr164 S P 20 L (.int y :: .int x :: st) sh M c s = (mr164 S P 21 L (.int (x <<< (y &&& 31)) :: st) sh M c s) := propext (mv_R_iff (i := .ishl) (len := 1) (ax := []) (by decide +kernel))
theorem e164_21 {y : Int32} {x : Int32} : mr164 S P 21 L (.int y :: .int x :: st) sh M c s = (mr164 S P 22 L (.int (x ||| y) :: st) sh M c s) := propext (mv_R_iff (i := .ior) (len := 1) (ax := []) (by decide +kernel))
theorem e164_22 {x : Int32} : mr164 S P 22 L (.int x :: st) sh M c s = (q_hs L 2 ∧ mr164 S P 23 (L.set 2 (some (.int x))) st sh M c s) := (propext (mv_R_iff (i := .istore_n 2) (len := 1) (ax := []) (by decide +kernel))).trans (q_st_eq (K := fun L => mr164 S P 23 L st sh M c s))
theorem e164_23 : mr164 S P 23 L st sh M c s = ((q_isI (q_gv L 3) ∧ q_hs L 3) ∧ mr164 S P 26 (L.set 3 (some (q_inc (q_gv L 3) (nI 1)))) st sh M c s) := (propext (mv_R_iff (i := .iinc 3 1) (len := 3) (ax := []) (by decide +kernel))).trans (q_inc_eq (K := fun L => mr164 S P 26 L st sh M c s))
theorem e164_26 : mr164 S P 26 L st sh M c s = (mr164 S P 4 L st sh M c s) := propext (mv_R_iff (i := .goto (-22)) (len := 3) (ax := [4]) (by decide +kernel))
theorem e164_29 : mr164 S P 29 L st sh M c s = (q_isI (q_gv L 2) ∧ mr164 S P 30 L (q_gv L 2 :: st) sh M c s) := (propext (mv_R_iff (i := .iload_n 2) (len := 1) (ax := []) (by decide +kernel))).trans (q_ldI_eq (K := fun st => mr164 S P 30 L st sh M c s))
theorem e164_30 {x : Int32} : mr164 S P 30 L [.int x] sh M c s = (mv_nr 0 x ∧ P (some (.int x)) sh M) := propext (mv_R_iff (i := .ireturn) (len := 1) (ax := [0]) (by decide +kernel))
-- 165: TurnedTabletsModel.weaves(III)I
def mk165 : mv_Cd := [
  (0, .iload_n 1, 1, []),
  (1, .bipush 31, 2, []),
  (3, .iadd, 1, []),
  (4, .bipush 32, 2, []),
  (6, .aload_n 0, 1, []),
  (7, .getfield 7, 3, [1025, 0, 5, 0]),
  (10, .iload_n 1, 1, []),
  (11, .bipush 30, 2, []),
  (13, .iadd, 1, []),
  (14, .iaload, 1, []),
  (15, .imul, 1, []),
  (16, .iadd, 1, []),
  (17, .istore 4, 2, []),
  (19, .iconst 0, 1, []),
  (20, .istore 5, 2, []),
  (22, .iload 5, 2, []),
  (24, .bipush 30, 2, []),
  (26, .if_icmp .ge 30, 3, [56]),
  (29, .aload_n 0, 1, []),
  (30, .getfield 7, 3, [1025, 0, 5, 0]),
  (33, .iload 4, 2, []),
  (35, .iconst 2, 1, []),
  (36, .iadd, 1, []),
  (37, .iload 5, 2, []),
  (39, .iadd, 1, []),
  (40, .aload_n 0, 1, []),
  (41, .getfield 7, 3, [1025, 0, 5, 0]),
  (44, .iload_n 1, 1, []),
  (45, .iload 5, 2, []),
  (47, .iadd, 1, []),
  (48, .iaload, 1, []),
  (49, .iastore, 1, []),
  (50, .iinc 5 1, 3, []),
  (53, .goto (-31), 3, [22]),
  (56, .aload_n 0, 1, []),
  (57, .iload_n 1, 1, []),
  (58, .iload_n 2, 1, []),
  (59, .iload_n 3, 1, []),
  (60, .invokevirtual 186, 3, [0, 161, 4, 5, 0, 0, 0, 1223, 1225, 87, 119, 1226]),
  (63, .istore 5, 2, []),
  (65, .aload_n 0, 1, []),
  (66, .getfield 7, 3, [1025, 0, 5, 0]),
  (69, .iload 4, 2, []),
  (71, .aload_n 0, 1, []),
  (72, .iload_n 1, 1, []),
  (73, .invokevirtual 190, 3, [0, 162, 2, 5, 0, 0, 0, 1192, 1194, 82, 119, 1195]),
  (76, .iastore, 1, []),
  (77, .aload_n 0, 1, []),
  (78, .getfield 7, 3, [1025, 0, 5, 0]),
  (81, .iload 4, 2, []),
  (83, .iconst 1, 1, []),
  (84, .iadd, 1, []),
  (85, .aload_n 0, 1, []),
  (86, .iload_n 1, 1, []),
  (87, .invokevirtual 194, 3, [0, 164, 2, 5, 0, 0, 0, 1196, 1198, 83, 119, 1199]),
  (90, .iastore, 1, []),
  (91, .aload_n 0, 1, []),
  (92, .getfield 7, 3, [1025, 0, 5, 0]),
  (95, .iload_n 1, 1, []),
  (96, .bipush 30, 2, []),
  (98, .iadd, 1, []),
  (99, .dup2, 1, []),
  (100, .iaload, 1, []),
  (101, .iconst 1, 1, []),
  (102, .iadd, 1, []),
  (103, .iastore, 1, []),
  (104, .iload 5, 2, []),
  (106, .ireturn, 1, [0])]
def mr165 (S : Nat → mv_Sp) (P : mv_Post) : mv_Kt := mv_R mv_DF mk165 S (0, 0) P
theorem e165_0 : mr165 S P 0 L st sh M c s = (q_isI (q_gv L 1) ∧ mr165 S P 1 L (q_gv L 1 :: st) sh M c s) := (propext (mv_R_iff (i := .iload_n 1) (len := 1) (ax := []) (by decide +kernel))).trans (q_ldI_eq (K := fun st => mr165 S P 1 L st sh M c s))
theorem e165_1 : mr165 S P 1 L st sh M c s = (mr165 S P 3 L (.int (nI 31) :: st) sh M c s) := propext (mv_R_iff (i := .bipush 31) (len := 2) (ax := []) (by decide +kernel))
theorem e165_3 {y : Int32} {x : Int32} : mr165 S P 3 L (.int y :: .int x :: st) sh M c s = (mr165 S P 4 L (.int (x + y) :: st) sh M c s) := propext (mv_R_iff (i := .iadd) (len := 1) (ax := []) (by decide +kernel))
theorem e165_4 : mr165 S P 4 L st sh M c s = (mr165 S P 6 L (.int (nI 32) :: st) sh M c s) := propext (mv_R_iff (i := .bipush 32) (len := 2) (ax := []) (by decide +kernel))
theorem e165_6 : mr165 S P 6 L st sh M c s = (q_isA (q_gv L 0) ∧ mr165 S P 7 L (q_gv L 0 :: st) sh M c s) := (propext (mv_R_iff (i := .aload_n 0) (len := 1) (ax := []) (by decide +kernel))).trans (q_ldA_eq (K := fun st => mr165 S P 7 L st sh M c s))
theorem e165_7 {a : Nat} : mr165 S P 7 L (.ref a :: st) sh M c s = (mv_kgf sh M a 5 0 (mr165 S P) 10 L st c s) := propext (mv_R_iff (i := .getfield 7) (len := 3) (ax := [1025, 0, 5, 0]) (by decide +kernel))
theorem e165_10 : mr165 S P 10 L st sh M c s = (q_isI (q_gv L 1) ∧ mr165 S P 11 L (q_gv L 1 :: st) sh M c s) := (propext (mv_R_iff (i := .iload_n 1) (len := 1) (ax := []) (by decide +kernel))).trans (q_ldI_eq (K := fun st => mr165 S P 11 L st sh M c s))
theorem e165_11 : mr165 S P 11 L st sh M c s = (mr165 S P 13 L (.int (nI 30) :: st) sh M c s) := propext (mv_R_iff (i := .bipush 30) (len := 2) (ax := []) (by decide +kernel))
theorem e165_13 {y : Int32} {x : Int32} : mr165 S P 13 L (.int y :: .int x :: st) sh M c s = (mr165 S P 14 L (.int (x + y) :: st) sh M c s) := propext (mv_R_iff (i := .iadd) (len := 1) (ax := []) (by decide +kernel))
theorem e165_14 {i : Int32} {a : Nat} : mr165 S P 14 L (.int i :: .ref a :: st) sh M c s = (mv_kld sh M a i (mr165 S P) 15 L st c s) := propext (mv_R_iff (i := .iaload) (len := 1) (ax := []) (by decide +kernel))
theorem e165_15 {y : Int32} {x : Int32} : mr165 S P 15 L (.int y :: .int x :: st) sh M c s = (mr165 S P 16 L (.int (x * y) :: st) sh M c s) := propext (mv_R_iff (i := .imul) (len := 1) (ax := []) (by decide +kernel))
theorem e165_16 {y : Int32} {x : Int32} : mr165 S P 16 L (.int y :: .int x :: st) sh M c s = (mr165 S P 17 L (.int (x + y) :: st) sh M c s) := propext (mv_R_iff (i := .iadd) (len := 1) (ax := []) (by decide +kernel))
theorem e165_17 {x : Int32} : mr165 S P 17 L (.int x :: st) sh M c s = (q_hs L 4 ∧ mr165 S P 19 (L.set 4 (some (.int x))) st sh M c s) := (propext (mv_R_iff (i := .istore 4) (len := 2) (ax := []) (by decide +kernel))).trans (q_st_eq (K := fun L => mr165 S P 19 L st sh M c s))
theorem e165_19 : mr165 S P 19 L st sh M c s = (mr165 S P 20 L (.int (nI 0) :: st) sh M c s) := propext (mv_R_iff (i := .iconst 0) (len := 1) (ax := []) (by decide +kernel))
theorem e165_20 {x : Int32} : mr165 S P 20 L (.int x :: st) sh M c s = (q_hs L 5 ∧ mr165 S P 22 (L.set 5 (some (.int x))) st sh M c s) := (propext (mv_R_iff (i := .istore 5) (len := 2) (ax := []) (by decide +kernel))).trans (q_st_eq (K := fun L => mr165 S P 22 L st sh M c s))
theorem e165_22 : mr165 S P 22 L st sh M c s = (q_isI (q_gv L 5) ∧ mr165 S P 24 L (q_gv L 5 :: st) sh M c s) := (propext (mv_R_iff (i := .iload 5) (len := 2) (ax := []) (by decide +kernel))).trans (q_ldI_eq (K := fun st => mr165 S P 24 L st sh M c s))
theorem e165_24 : mr165 S P 24 L st sh M c s = (mr165 S P 26 L (.int (nI 30) :: st) sh M c s) := propext (mv_R_iff (i := .bipush 30) (len := 2) (ax := []) (by decide +kernel))
theorem e165_26 {y : Int32} {x : Int32} : mr165 S P 26 L (.int y :: .int x :: st) sh M c s = (if y ≤ x then mr165 S P 56 L st sh M c s else mr165 S P 29 L st sh M c s) := (propext (mv_R_iff (i := .if_icmp .ge 30) (len := 3) (ax := [56]) (by decide +kernel))).trans (q_br)
theorem e165_29 : mr165 S P 29 L st sh M c s = (q_isA (q_gv L 0) ∧ mr165 S P 30 L (q_gv L 0 :: st) sh M c s) := (propext (mv_R_iff (i := .aload_n 0) (len := 1) (ax := []) (by decide +kernel))).trans (q_ldA_eq (K := fun st => mr165 S P 30 L st sh M c s))
theorem e165_30 {a : Nat} : mr165 S P 30 L (.ref a :: st) sh M c s = (mv_kgf sh M a 5 0 (mr165 S P) 33 L st c s) := propext (mv_R_iff (i := .getfield 7) (len := 3) (ax := [1025, 0, 5, 0]) (by decide +kernel))
theorem e165_33 : mr165 S P 33 L st sh M c s = (q_isI (q_gv L 4) ∧ mr165 S P 35 L (q_gv L 4 :: st) sh M c s) := (propext (mv_R_iff (i := .iload 4) (len := 2) (ax := []) (by decide +kernel))).trans (q_ldI_eq (K := fun st => mr165 S P 35 L st sh M c s))
theorem e165_35 : mr165 S P 35 L st sh M c s = (mr165 S P 36 L (.int (nI 2) :: st) sh M c s) := propext (mv_R_iff (i := .iconst 2) (len := 1) (ax := []) (by decide +kernel))
theorem e165_36 {y : Int32} {x : Int32} : mr165 S P 36 L (.int y :: .int x :: st) sh M c s = (mr165 S P 37 L (.int (x + y) :: st) sh M c s) := propext (mv_R_iff (i := .iadd) (len := 1) (ax := []) (by decide +kernel))
theorem e165_37 : mr165 S P 37 L st sh M c s = (q_isI (q_gv L 5) ∧ mr165 S P 39 L (q_gv L 5 :: st) sh M c s) := (propext (mv_R_iff (i := .iload 5) (len := 2) (ax := []) (by decide +kernel))).trans (q_ldI_eq (K := fun st => mr165 S P 39 L st sh M c s))
theorem e165_39 {y : Int32} {x : Int32} : mr165 S P 39 L (.int y :: .int x :: st) sh M c s = (mr165 S P 40 L (.int (x + y) :: st) sh M c s) := propext (mv_R_iff (i := .iadd) (len := 1) (ax := []) (by decide +kernel))
theorem e165_40 : mr165 S P 40 L st sh M c s = (q_isA (q_gv L 0) ∧ mr165 S P 41 L (q_gv L 0 :: st) sh M c s) := (propext (mv_R_iff (i := .aload_n 0) (len := 1) (ax := []) (by decide +kernel))).trans (q_ldA_eq (K := fun st => mr165 S P 41 L st sh M c s))
theorem e165_41 {a : Nat} : mr165 S P 41 L (.ref a :: st) sh M c s = (mv_kgf sh M a 5 0 (mr165 S P) 44 L st c s) := propext (mv_R_iff (i := .getfield 7) (len := 3) (ax := [1025, 0, 5, 0]) (by decide +kernel))
theorem e165_44 : mr165 S P 44 L st sh M c s = (q_isI (q_gv L 1) ∧ mr165 S P 45 L (q_gv L 1 :: st) sh M c s) := (propext (mv_R_iff (i := .iload_n 1) (len := 1) (ax := []) (by decide +kernel))).trans (q_ldI_eq (K := fun st => mr165 S P 45 L st sh M c s))
theorem e165_45 : mr165 S P 45 L st sh M c s = (q_isI (q_gv L 5) ∧ mr165 S P 47 L (q_gv L 5 :: st) sh M c s) := (propext (mv_R_iff (i := .iload 5) (len := 2) (ax := []) (by decide +kernel))).trans (q_ldI_eq (K := fun st => mr165 S P 47 L st sh M c s))
theorem e165_47 {y : Int32} {x : Int32} : mr165 S P 47 L (.int y :: .int x :: st) sh M c s = (mr165 S P 48 L (.int (x + y) :: st) sh M c s) := propext (mv_R_iff (i := .iadd) (len := 1) (ax := []) (by decide +kernel))
theorem e165_48 {i : Int32} {a : Nat} : mr165 S P 48 L (.int i :: .ref a :: st) sh M c s = (mv_kld sh M a i (mr165 S P) 49 L st c s) := propext (mv_R_iff (i := .iaload) (len := 1) (ax := []) (by decide +kernel))
theorem e165_49 {x : Int32} {i : Int32} {a : Nat} : mr165 S P 49 L (.int x :: .int i :: .ref a :: st) sh M c s = (mv_kst sh M a i x (mr165 S P) 50 L st c s) := propext (mv_R_iff (i := .iastore) (len := 1) (ax := []) (by decide +kernel))
theorem e165_50 : mr165 S P 50 L st sh M c s = ((q_isI (q_gv L 5) ∧ q_hs L 5) ∧ mr165 S P 53 (L.set 5 (some (q_inc (q_gv L 5) (nI 1)))) st sh M c s) := (propext (mv_R_iff (i := .iinc 5 1) (len := 3) (ax := []) (by decide +kernel))).trans (q_inc_eq (K := fun L => mr165 S P 53 L st sh M c s))
theorem e165_53 : mr165 S P 53 L st sh M c s = (mr165 S P 22 L st sh M c s) := propext (mv_R_iff (i := .goto (-31)) (len := 3) (ax := [22]) (by decide +kernel))
theorem e165_56 : mr165 S P 56 L st sh M c s = (q_isA (q_gv L 0) ∧ mr165 S P 57 L (q_gv L 0 :: st) sh M c s) := (propext (mv_R_iff (i := .aload_n 0) (len := 1) (ax := []) (by decide +kernel))).trans (q_ldA_eq (K := fun st => mr165 S P 57 L st sh M c s))
theorem e165_57 : mr165 S P 57 L st sh M c s = (q_isI (q_gv L 1) ∧ mr165 S P 58 L (q_gv L 1 :: st) sh M c s) := (propext (mv_R_iff (i := .iload_n 1) (len := 1) (ax := []) (by decide +kernel))).trans (q_ldI_eq (K := fun st => mr165 S P 58 L st sh M c s))
theorem e165_58 : mr165 S P 58 L st sh M c s = (q_isI (q_gv L 2) ∧ mr165 S P 59 L (q_gv L 2 :: st) sh M c s) := (propext (mv_R_iff (i := .iload_n 2) (len := 1) (ax := []) (by decide +kernel))).trans (q_ldI_eq (K := fun st => mr165 S P 59 L st sh M c s))
theorem e165_59 : mr165 S P 59 L st sh M c s = (q_isI (q_gv L 3) ∧ mr165 S P 60 L (q_gv L 3 :: st) sh M c s) := (propext (mv_R_iff (i := .iload_n 3) (len := 1) (ax := []) (by decide +kernel))).trans (q_ldI_eq (K := fun st => mr165 S P 60 L st sh M c s))
theorem e165_60 {v4 : Value} {v3 : Value} {v2 : Value} {v1 : Value} : mr165 S P 60 L (v4 :: v3 :: v2 :: v1 :: st) sh M c s = (mv_ss st ≤ 8 ∧ c ≤ 0 ∧ s ≤ 0 ∧ mv_isO sh (some v1) 5 ∧ mv_kal S 161 [v1, v2, v3, v4] sh M (mr165 S P) 63 L st c s) := (propext (mv_R_iff (i := .invokevirtual 186) (len := 3) (ax := [0, 161, 4, 5, 0, 0, 0, 1223, 1225, 87, 119, 1226]) (by decide +kernel))).trans (q_call0)
theorem e165_63 {x : Int32} : mr165 S P 63 L (.int x :: st) sh M c s = (q_hs L 5 ∧ mr165 S P 65 (L.set 5 (some (.int x))) st sh M c s) := (propext (mv_R_iff (i := .istore 5) (len := 2) (ax := []) (by decide +kernel))).trans (q_st_eq (K := fun L => mr165 S P 65 L st sh M c s))
theorem e165_65 : mr165 S P 65 L st sh M c s = (q_isA (q_gv L 0) ∧ mr165 S P 66 L (q_gv L 0 :: st) sh M c s) := (propext (mv_R_iff (i := .aload_n 0) (len := 1) (ax := []) (by decide +kernel))).trans (q_ldA_eq (K := fun st => mr165 S P 66 L st sh M c s))
theorem e165_66 {a : Nat} : mr165 S P 66 L (.ref a :: st) sh M c s = (mv_kgf sh M a 5 0 (mr165 S P) 69 L st c s) := propext (mv_R_iff (i := .getfield 7) (len := 3) (ax := [1025, 0, 5, 0]) (by decide +kernel))
theorem e165_69 : mr165 S P 69 L st sh M c s = (q_isI (q_gv L 4) ∧ mr165 S P 71 L (q_gv L 4 :: st) sh M c s) := (propext (mv_R_iff (i := .iload 4) (len := 2) (ax := []) (by decide +kernel))).trans (q_ldI_eq (K := fun st => mr165 S P 71 L st sh M c s))
theorem e165_71 : mr165 S P 71 L st sh M c s = (q_isA (q_gv L 0) ∧ mr165 S P 72 L (q_gv L 0 :: st) sh M c s) := (propext (mv_R_iff (i := .aload_n 0) (len := 1) (ax := []) (by decide +kernel))).trans (q_ldA_eq (K := fun st => mr165 S P 72 L st sh M c s))
theorem e165_72 : mr165 S P 72 L st sh M c s = (q_isI (q_gv L 1) ∧ mr165 S P 73 L (q_gv L 1 :: st) sh M c s) := (propext (mv_R_iff (i := .iload_n 1) (len := 1) (ax := []) (by decide +kernel))).trans (q_ldI_eq (K := fun st => mr165 S P 73 L st sh M c s))
theorem e165_73 {v2 : Value} {v1 : Value} : mr165 S P 73 L (v2 :: v1 :: st) sh M c s = (mv_ss st ≤ 8 ∧ c ≤ 0 ∧ s ≤ 0 ∧ mv_isO sh (some v1) 5 ∧ mv_kal S 162 [v1, v2] sh M (mr165 S P) 76 L st c s) := (propext (mv_R_iff (i := .invokevirtual 190) (len := 3) (ax := [0, 162, 2, 5, 0, 0, 0, 1192, 1194, 82, 119, 1195]) (by decide +kernel))).trans (q_call0)
theorem e165_76 {x : Int32} {i : Int32} {a : Nat} : mr165 S P 76 L (.int x :: .int i :: .ref a :: st) sh M c s = (mv_kst sh M a i x (mr165 S P) 77 L st c s) := propext (mv_R_iff (i := .iastore) (len := 1) (ax := []) (by decide +kernel))
theorem e165_77 : mr165 S P 77 L st sh M c s = (q_isA (q_gv L 0) ∧ mr165 S P 78 L (q_gv L 0 :: st) sh M c s) := (propext (mv_R_iff (i := .aload_n 0) (len := 1) (ax := []) (by decide +kernel))).trans (q_ldA_eq (K := fun st => mr165 S P 78 L st sh M c s))
theorem e165_78 {a : Nat} : mr165 S P 78 L (.ref a :: st) sh M c s = (mv_kgf sh M a 5 0 (mr165 S P) 81 L st c s) := propext (mv_R_iff (i := .getfield 7) (len := 3) (ax := [1025, 0, 5, 0]) (by decide +kernel))
theorem e165_81 : mr165 S P 81 L st sh M c s = (q_isI (q_gv L 4) ∧ mr165 S P 83 L (q_gv L 4 :: st) sh M c s) := (propext (mv_R_iff (i := .iload 4) (len := 2) (ax := []) (by decide +kernel))).trans (q_ldI_eq (K := fun st => mr165 S P 83 L st sh M c s))
theorem e165_83 : mr165 S P 83 L st sh M c s = (mr165 S P 84 L (.int (nI 1) :: st) sh M c s) := propext (mv_R_iff (i := .iconst 1) (len := 1) (ax := []) (by decide +kernel))
theorem e165_84 {y : Int32} {x : Int32} : mr165 S P 84 L (.int y :: .int x :: st) sh M c s = (mr165 S P 85 L (.int (x + y) :: st) sh M c s) := propext (mv_R_iff (i := .iadd) (len := 1) (ax := []) (by decide +kernel))
theorem e165_85 : mr165 S P 85 L st sh M c s = (q_isA (q_gv L 0) ∧ mr165 S P 86 L (q_gv L 0 :: st) sh M c s) := (propext (mv_R_iff (i := .aload_n 0) (len := 1) (ax := []) (by decide +kernel))).trans (q_ldA_eq (K := fun st => mr165 S P 86 L st sh M c s))
theorem e165_86 : mr165 S P 86 L st sh M c s = (q_isI (q_gv L 1) ∧ mr165 S P 87 L (q_gv L 1 :: st) sh M c s) := (propext (mv_R_iff (i := .iload_n 1) (len := 1) (ax := []) (by decide +kernel))).trans (q_ldI_eq (K := fun st => mr165 S P 87 L st sh M c s))
theorem e165_87 {v2 : Value} {v1 : Value} : mr165 S P 87 L (v2 :: v1 :: st) sh M c s = (mv_ss st ≤ 8 ∧ c ≤ 0 ∧ s ≤ 0 ∧ mv_isO sh (some v1) 5 ∧ mv_kal S 164 [v1, v2] sh M (mr165 S P) 90 L st c s) := (propext (mv_R_iff (i := .invokevirtual 194) (len := 3) (ax := [0, 164, 2, 5, 0, 0, 0, 1196, 1198, 83, 119, 1199]) (by decide +kernel))).trans (q_call0)
theorem e165_90 {x : Int32} {i : Int32} {a : Nat} : mr165 S P 90 L (.int x :: .int i :: .ref a :: st) sh M c s = (mv_kst sh M a i x (mr165 S P) 91 L st c s) := propext (mv_R_iff (i := .iastore) (len := 1) (ax := []) (by decide +kernel))
theorem e165_91 : mr165 S P 91 L st sh M c s = (q_isA (q_gv L 0) ∧ mr165 S P 92 L (q_gv L 0 :: st) sh M c s) := (propext (mv_R_iff (i := .aload_n 0) (len := 1) (ax := []) (by decide +kernel))).trans (q_ldA_eq (K := fun st => mr165 S P 92 L st sh M c s))
theorem e165_92 {a : Nat} : mr165 S P 92 L (.ref a :: st) sh M c s = (mv_kgf sh M a 5 0 (mr165 S P) 95 L st c s) := propext (mv_R_iff (i := .getfield 7) (len := 3) (ax := [1025, 0, 5, 0]) (by decide +kernel))
theorem e165_95 : mr165 S P 95 L st sh M c s = (q_isI (q_gv L 1) ∧ mr165 S P 96 L (q_gv L 1 :: st) sh M c s) := (propext (mv_R_iff (i := .iload_n 1) (len := 1) (ax := []) (by decide +kernel))).trans (q_ldI_eq (K := fun st => mr165 S P 96 L st sh M c s))
theorem e165_96 : mr165 S P 96 L st sh M c s = (mr165 S P 98 L (.int (nI 30) :: st) sh M c s) := propext (mv_R_iff (i := .bipush 30) (len := 2) (ax := []) (by decide +kernel))
theorem e165_98 {y : Int32} {x : Int32} : mr165 S P 98 L (.int y :: .int x :: st) sh M c s = (mr165 S P 99 L (.int (x + y) :: st) sh M c s) := propext (mv_R_iff (i := .iadd) (len := 1) (ax := []) (by decide +kernel))
theorem e165_99 {x : Int32} {y : Int32} : mr165 S P 99 L (.int x :: .int y :: st) sh M c s = (mr165 S P 100 L (.int x :: .int y :: .int x :: .int y :: st) sh M c s) := propext (mv_R_iff (i := .dup2) (len := 1) (ax := []) (by decide +kernel))
theorem e165_99q {x : Int32} {y : Nat} : mr165 S P 99 L (.int x :: .ref y :: st) sh M c s = (mr165 S P 100 L (.int x :: .ref y :: .int x :: .ref y :: st) sh M c s) := propext (mv_R_iff (i := .dup2) (len := 1) (ax := []) (by decide +kernel))
theorem e165_99r {x : Nat} {y : Int32} : mr165 S P 99 L (.ref x :: .int y :: st) sh M c s = (mr165 S P 100 L (.ref x :: .int y :: .ref x :: .int y :: st) sh M c s) := propext (mv_R_iff (i := .dup2) (len := 1) (ax := []) (by decide +kernel))
theorem e165_99rq {x : Nat} {y : Nat} : mr165 S P 99 L (.ref x :: .ref y :: st) sh M c s = (mr165 S P 100 L (.ref x :: .ref y :: .ref x :: .ref y :: st) sh M c s) := propext (mv_R_iff (i := .dup2) (len := 1) (ax := []) (by decide +kernel))
theorem e165_100 {i : Int32} {a : Nat} : mr165 S P 100 L (.int i :: .ref a :: st) sh M c s = (mv_kld sh M a i (mr165 S P) 101 L st c s) := propext (mv_R_iff (i := .iaload) (len := 1) (ax := []) (by decide +kernel))
theorem e165_101 : mr165 S P 101 L st sh M c s = (mr165 S P 102 L (.int (nI 1) :: st) sh M c s) := propext (mv_R_iff (i := .iconst 1) (len := 1) (ax := []) (by decide +kernel))
theorem e165_102 {y : Int32} {x : Int32} : mr165 S P 102 L (.int y :: .int x :: st) sh M c s = (mr165 S P 103 L (.int (x + y) :: st) sh M c s) := propext (mv_R_iff (i := .iadd) (len := 1) (ax := []) (by decide +kernel))
theorem e165_103 {x : Int32} {i : Int32} {a : Nat} : mr165 S P 103 L (.int x :: .int i :: .ref a :: st) sh M c s = (mv_kst sh M a i x (mr165 S P) 104 L st c s) := propext (mv_R_iff (i := .iastore) (len := 1) (ax := []) (by decide +kernel))
theorem e165_104 : mr165 S P 104 L st sh M c s = (q_isI (q_gv L 5) ∧ mr165 S P 106 L (q_gv L 5 :: st) sh M c s) := (propext (mv_R_iff (i := .iload 5) (len := 2) (ax := []) (by decide +kernel))).trans (q_ldI_eq (K := fun st => mr165 S P 106 L st sh M c s))
theorem e165_106 {x : Int32} : mr165 S P 106 L [.int x] sh M c s = (mv_nr 0 x ∧ P (some (.int x)) sh M) := propext (mv_R_iff (i := .ireturn) (len := 1) (ax := [0]) (by decide +kernel))
-- 166: TurnedTabletsModel.again()I
def mk166 : mv_Cd := [
  (0, .aload_n 0, 1, []),
  (1, .getfield 160, 3, [1035, 0, 5, 10]),
  (4, .ifCond .ne 6, 3, [10]),
  (7, .bipush (-2), 2, []),
  (9, .ireturn, 1, [0]),
  (10, .aload_n 0, 1, []),
  (11, .getfield 7, 3, [1025, 0, 5, 0]),
  (14, .bipush 30, 2, []),
  (16, .iaload, 1, []),
  (17, .bipush 24, 2, []),
  (19, .if_icmp .ne 6, 3, [25]),
  (22, .bipush (-3), 2, []),
  (24, .ireturn, 1, [0]),
  (25, .aload_n 0, 1, []),
  (26, .invokevirtual 212, 3, [0, 157, 1, 5, 0, 0, 0, 1211, 1213, 84, 119, 1214]),
  (29, .iconst 0, 1, []),
  (30, .istore_n 1, 1, []),
  (31, .iload_n 1, 1, []),
  (32, .aload_n 0, 1, []),
  (33, .getfield 160, 3, [1035, 0, 5, 10]),
  (36, .if_icmp .ge 45, 3, [81]),
  (39, .aload_n 0, 1, []),
  (40, .getfield 7, 3, [1025, 0, 5, 0]),
  (43, .bipush 30, 2, []),
  (45, .iaload, 1, []),
  (46, .bipush 24, 2, []),
  (48, .if_icmp .ge 33, 3, [81]),
  (51, .aload_n 0, 1, []),
  (52, .iconst 0, 1, []),
  (53, .aload_n 0, 1, []),
  (54, .getfield 25, 3, [1036, 0, 5, 11]),
  (57, .iload_n 1, 1, []),
  (58, .iaload, 1, []),
  (59, .bipush 10, 2, []),
  (61, .idiv, 1, []),
  (62, .aload_n 0, 1, []),
  (63, .getfield 25, 3, [1036, 0, 5, 11]),
  (66, .iload_n 1, 1, []),
  (67, .iaload, 1, []),
  (68, .bipush 10, 2, []),
  (70, .irem, 1, []),
  (71, .invokevirtual 215, 3, [0, 165, 4, 5, 0, 0, 0, 1219, 1221, 86, 119, 1222]),
  (74, .pop, 1, []),
  (75, .iinc 1 1, 3, []),
  (78, .goto (-47), 3, [31]),
  (81, .iload_n 1, 1, []),
  (82, .ireturn, 1, [0])]
def mr166 (S : Nat → mv_Sp) (P : mv_Post) : mv_Kt := mv_R mv_DF mk166 S (0, 0) P
theorem e166_0 : mr166 S P 0 L st sh M c s = (q_isA (q_gv L 0) ∧ mr166 S P 1 L (q_gv L 0 :: st) sh M c s) := (propext (mv_R_iff (i := .aload_n 0) (len := 1) (ax := []) (by decide +kernel))).trans (q_ldA_eq (K := fun st => mr166 S P 1 L st sh M c s))
theorem e166_1 {a : Nat} : mr166 S P 1 L (.ref a :: st) sh M c s = (mv_kgf sh M a 5 10 (mr166 S P) 4 L st c s) := propext (mv_R_iff (i := .getfield 160) (len := 3) (ax := [1035, 0, 5, 10]) (by decide +kernel))
theorem e166_4 {x : Int32} : mr166 S P 4 L (.int x :: st) sh M c s = (if x = nI 0 then mr166 S P 7 L st sh M c s else mr166 S P 10 L st sh M c s) := (propext (mv_R_iff (i := .ifCond .ne 6) (len := 3) (ax := [10]) (by decide +kernel))).trans (q_br')
theorem e166_7 : mr166 S P 7 L st sh M c s = (mr166 S P 9 L (.int (Int32.ofInt (-2)) :: st) sh M c s) := (propext (mv_R_iff (i := .bipush (-2)) (len := 2) (ax := []) (by decide +kernel))).trans (congrArg (fun z => mr166 S P 9 L (.int z :: st) sh M c s) (by decide : (Int8.ofInt (-2)).toInt32 = Int32.ofInt (-2)))
theorem e166_9 {x : Int32} : mr166 S P 9 L [.int x] sh M c s = (mv_nr 0 x ∧ P (some (.int x)) sh M) := propext (mv_R_iff (i := .ireturn) (len := 1) (ax := [0]) (by decide +kernel))
theorem e166_10 : mr166 S P 10 L st sh M c s = (q_isA (q_gv L 0) ∧ mr166 S P 11 L (q_gv L 0 :: st) sh M c s) := (propext (mv_R_iff (i := .aload_n 0) (len := 1) (ax := []) (by decide +kernel))).trans (q_ldA_eq (K := fun st => mr166 S P 11 L st sh M c s))
theorem e166_11 {a : Nat} : mr166 S P 11 L (.ref a :: st) sh M c s = (mv_kgf sh M a 5 0 (mr166 S P) 14 L st c s) := propext (mv_R_iff (i := .getfield 7) (len := 3) (ax := [1025, 0, 5, 0]) (by decide +kernel))
theorem e166_14 : mr166 S P 14 L st sh M c s = (mr166 S P 16 L (.int (nI 30) :: st) sh M c s) := propext (mv_R_iff (i := .bipush 30) (len := 2) (ax := []) (by decide +kernel))
theorem e166_16 {i : Int32} {a : Nat} : mr166 S P 16 L (.int i :: .ref a :: st) sh M c s = (mv_kld sh M a i (mr166 S P) 17 L st c s) := propext (mv_R_iff (i := .iaload) (len := 1) (ax := []) (by decide +kernel))
theorem e166_17 : mr166 S P 17 L st sh M c s = (mr166 S P 19 L (.int (nI 24) :: st) sh M c s) := propext (mv_R_iff (i := .bipush 24) (len := 2) (ax := []) (by decide +kernel))
theorem e166_19 {y : Int32} {x : Int32} : mr166 S P 19 L (.int y :: .int x :: st) sh M c s = (if x = y then mr166 S P 22 L st sh M c s else mr166 S P 25 L st sh M c s) := (propext (mv_R_iff (i := .if_icmp .ne 6) (len := 3) (ax := [25]) (by decide +kernel))).trans (q_br')
theorem e166_22 : mr166 S P 22 L st sh M c s = (mr166 S P 24 L (.int (Int32.ofInt (-3)) :: st) sh M c s) := (propext (mv_R_iff (i := .bipush (-3)) (len := 2) (ax := []) (by decide +kernel))).trans (congrArg (fun z => mr166 S P 24 L (.int z :: st) sh M c s) (by decide : (Int8.ofInt (-3)).toInt32 = Int32.ofInt (-3)))
theorem e166_24 {x : Int32} : mr166 S P 24 L [.int x] sh M c s = (mv_nr 0 x ∧ P (some (.int x)) sh M) := propext (mv_R_iff (i := .ireturn) (len := 1) (ax := [0]) (by decide +kernel))
theorem e166_25 : mr166 S P 25 L st sh M c s = (q_isA (q_gv L 0) ∧ mr166 S P 26 L (q_gv L 0 :: st) sh M c s) := (propext (mv_R_iff (i := .aload_n 0) (len := 1) (ax := []) (by decide +kernel))).trans (q_ldA_eq (K := fun st => mr166 S P 26 L st sh M c s))
theorem e166_26 {v1 : Value} : mr166 S P 26 L (v1 :: st) sh M c s = (mv_ss st ≤ 8 ∧ c ≤ 0 ∧ s ≤ 0 ∧ mv_isO sh (some v1) 5 ∧ mv_kal S 157 [v1] sh M (mr166 S P) 29 L st c s) := (propext (mv_R_iff (i := .invokevirtual 212) (len := 3) (ax := [0, 157, 1, 5, 0, 0, 0, 1211, 1213, 84, 119, 1214]) (by decide +kernel))).trans (q_call0)
theorem e166_29 : mr166 S P 29 L st sh M c s = (mr166 S P 30 L (.int (nI 0) :: st) sh M c s) := propext (mv_R_iff (i := .iconst 0) (len := 1) (ax := []) (by decide +kernel))
theorem e166_30 {x : Int32} : mr166 S P 30 L (.int x :: st) sh M c s = (q_hs L 1 ∧ mr166 S P 31 (L.set 1 (some (.int x))) st sh M c s) := (propext (mv_R_iff (i := .istore_n 1) (len := 1) (ax := []) (by decide +kernel))).trans (q_st_eq (K := fun L => mr166 S P 31 L st sh M c s))
theorem e166_31 : mr166 S P 31 L st sh M c s = (q_isI (q_gv L 1) ∧ mr166 S P 32 L (q_gv L 1 :: st) sh M c s) := (propext (mv_R_iff (i := .iload_n 1) (len := 1) (ax := []) (by decide +kernel))).trans (q_ldI_eq (K := fun st => mr166 S P 32 L st sh M c s))
theorem e166_32 : mr166 S P 32 L st sh M c s = (q_isA (q_gv L 0) ∧ mr166 S P 33 L (q_gv L 0 :: st) sh M c s) := (propext (mv_R_iff (i := .aload_n 0) (len := 1) (ax := []) (by decide +kernel))).trans (q_ldA_eq (K := fun st => mr166 S P 33 L st sh M c s))
theorem e166_33 {a : Nat} : mr166 S P 33 L (.ref a :: st) sh M c s = (mv_kgf sh M a 5 10 (mr166 S P) 36 L st c s) := propext (mv_R_iff (i := .getfield 160) (len := 3) (ax := [1035, 0, 5, 10]) (by decide +kernel))
theorem e166_36 {y : Int32} {x : Int32} : mr166 S P 36 L (.int y :: .int x :: st) sh M c s = (if y ≤ x then mr166 S P 81 L st sh M c s else mr166 S P 39 L st sh M c s) := (propext (mv_R_iff (i := .if_icmp .ge 45) (len := 3) (ax := [81]) (by decide +kernel))).trans (q_br)
theorem e166_39 : mr166 S P 39 L st sh M c s = (q_isA (q_gv L 0) ∧ mr166 S P 40 L (q_gv L 0 :: st) sh M c s) := (propext (mv_R_iff (i := .aload_n 0) (len := 1) (ax := []) (by decide +kernel))).trans (q_ldA_eq (K := fun st => mr166 S P 40 L st sh M c s))
theorem e166_40 {a : Nat} : mr166 S P 40 L (.ref a :: st) sh M c s = (mv_kgf sh M a 5 0 (mr166 S P) 43 L st c s) := propext (mv_R_iff (i := .getfield 7) (len := 3) (ax := [1025, 0, 5, 0]) (by decide +kernel))
theorem e166_43 : mr166 S P 43 L st sh M c s = (mr166 S P 45 L (.int (nI 30) :: st) sh M c s) := propext (mv_R_iff (i := .bipush 30) (len := 2) (ax := []) (by decide +kernel))
theorem e166_45 {i : Int32} {a : Nat} : mr166 S P 45 L (.int i :: .ref a :: st) sh M c s = (mv_kld sh M a i (mr166 S P) 46 L st c s) := propext (mv_R_iff (i := .iaload) (len := 1) (ax := []) (by decide +kernel))
theorem e166_46 : mr166 S P 46 L st sh M c s = (mr166 S P 48 L (.int (nI 24) :: st) sh M c s) := propext (mv_R_iff (i := .bipush 24) (len := 2) (ax := []) (by decide +kernel))
theorem e166_48 {y : Int32} {x : Int32} : mr166 S P 48 L (.int y :: .int x :: st) sh M c s = (if y ≤ x then mr166 S P 81 L st sh M c s else mr166 S P 51 L st sh M c s) := (propext (mv_R_iff (i := .if_icmp .ge 33) (len := 3) (ax := [81]) (by decide +kernel))).trans (q_br)
theorem e166_51 : mr166 S P 51 L st sh M c s = (q_isA (q_gv L 0) ∧ mr166 S P 52 L (q_gv L 0 :: st) sh M c s) := (propext (mv_R_iff (i := .aload_n 0) (len := 1) (ax := []) (by decide +kernel))).trans (q_ldA_eq (K := fun st => mr166 S P 52 L st sh M c s))
theorem e166_52 : mr166 S P 52 L st sh M c s = (mr166 S P 53 L (.int (nI 0) :: st) sh M c s) := propext (mv_R_iff (i := .iconst 0) (len := 1) (ax := []) (by decide +kernel))
theorem e166_53 : mr166 S P 53 L st sh M c s = (q_isA (q_gv L 0) ∧ mr166 S P 54 L (q_gv L 0 :: st) sh M c s) := (propext (mv_R_iff (i := .aload_n 0) (len := 1) (ax := []) (by decide +kernel))).trans (q_ldA_eq (K := fun st => mr166 S P 54 L st sh M c s))
theorem e166_54 {a : Nat} : mr166 S P 54 L (.ref a :: st) sh M c s = (mv_kgf sh M a 5 11 (mr166 S P) 57 L st c s) := propext (mv_R_iff (i := .getfield 25) (len := 3) (ax := [1036, 0, 5, 11]) (by decide +kernel))
theorem e166_57 : mr166 S P 57 L st sh M c s = (q_isI (q_gv L 1) ∧ mr166 S P 58 L (q_gv L 1 :: st) sh M c s) := (propext (mv_R_iff (i := .iload_n 1) (len := 1) (ax := []) (by decide +kernel))).trans (q_ldI_eq (K := fun st => mr166 S P 58 L st sh M c s))
theorem e166_58 {i : Int32} {a : Nat} : mr166 S P 58 L (.int i :: .ref a :: st) sh M c s = (mv_kld sh M a i (mr166 S P) 59 L st c s) := propext (mv_R_iff (i := .iaload) (len := 1) (ax := []) (by decide +kernel))
theorem e166_59 : mr166 S P 59 L st sh M c s = (mr166 S P 61 L (.int (nI 10) :: st) sh M c s) := propext (mv_R_iff (i := .bipush 10) (len := 2) (ax := []) (by decide +kernel))
theorem e166_61 {y : Int32} {x : Int32} : mr166 S P 61 L (.int y :: .int x :: st) sh M c s = (¬ y = nI 0 ∧ mr166 S P 62 L (.int (x / y) :: st) sh M c s) := propext (mv_R_iff (i := .idiv) (len := 1) (ax := []) (by decide +kernel))
theorem e166_62 : mr166 S P 62 L st sh M c s = (q_isA (q_gv L 0) ∧ mr166 S P 63 L (q_gv L 0 :: st) sh M c s) := (propext (mv_R_iff (i := .aload_n 0) (len := 1) (ax := []) (by decide +kernel))).trans (q_ldA_eq (K := fun st => mr166 S P 63 L st sh M c s))
theorem e166_63 {a : Nat} : mr166 S P 63 L (.ref a :: st) sh M c s = (mv_kgf sh M a 5 11 (mr166 S P) 66 L st c s) := propext (mv_R_iff (i := .getfield 25) (len := 3) (ax := [1036, 0, 5, 11]) (by decide +kernel))
theorem e166_66 : mr166 S P 66 L st sh M c s = (q_isI (q_gv L 1) ∧ mr166 S P 67 L (q_gv L 1 :: st) sh M c s) := (propext (mv_R_iff (i := .iload_n 1) (len := 1) (ax := []) (by decide +kernel))).trans (q_ldI_eq (K := fun st => mr166 S P 67 L st sh M c s))
theorem e166_67 {i : Int32} {a : Nat} : mr166 S P 67 L (.int i :: .ref a :: st) sh M c s = (mv_kld sh M a i (mr166 S P) 68 L st c s) := propext (mv_R_iff (i := .iaload) (len := 1) (ax := []) (by decide +kernel))
theorem e166_68 : mr166 S P 68 L st sh M c s = (mr166 S P 70 L (.int (nI 10) :: st) sh M c s) := propext (mv_R_iff (i := .bipush 10) (len := 2) (ax := []) (by decide +kernel))
theorem e166_70 {y : Int32} {x : Int32} : mr166 S P 70 L (.int y :: .int x :: st) sh M c s = (¬ y = nI 0 ∧ mr166 S P 71 L (.int (q_rm x y) :: st) sh M c s) := propext (mv_R_iff (i := .irem) (len := 1) (ax := []) (by decide +kernel))
theorem e166_71 {v4 : Value} {v3 : Value} {v2 : Value} {v1 : Value} : mr166 S P 71 L (v4 :: v3 :: v2 :: v1 :: st) sh M c s = (mv_ss st ≤ 8 ∧ c ≤ 0 ∧ s ≤ 0 ∧ mv_isO sh (some v1) 5 ∧ mv_kal S 165 [v1, v2, v3, v4] sh M (mr166 S P) 74 L st c s) := (propext (mv_R_iff (i := .invokevirtual 215) (len := 3) (ax := [0, 165, 4, 5, 0, 0, 0, 1219, 1221, 86, 119, 1222]) (by decide +kernel))).trans (q_call0)
theorem e166_74 {x : Int32} : mr166 S P 74 L (.int x :: st) sh M c s = (mr166 S P 75 L st sh M c s) := propext (mv_R_iff (i := .pop) (len := 1) (ax := []) (by decide +kernel))
theorem e166_74r {x : Nat} : mr166 S P 74 L (.ref x :: st) sh M c s = (mr166 S P 75 L st sh M c s) := propext (mv_R_iff (i := .pop) (len := 1) (ax := []) (by decide +kernel))
theorem e166_75 : mr166 S P 75 L st sh M c s = ((q_isI (q_gv L 1) ∧ q_hs L 1) ∧ mr166 S P 78 (L.set 1 (some (q_inc (q_gv L 1) (nI 1)))) st sh M c s) := (propext (mv_R_iff (i := .iinc 1 1) (len := 3) (ax := []) (by decide +kernel))).trans (q_inc_eq (K := fun L => mr166 S P 78 L st sh M c s))
theorem e166_78 : mr166 S P 78 L st sh M c s = (mr166 S P 31 L st sh M c s) := propext (mv_R_iff (i := .goto (-47)) (len := 3) (ax := [31]) (by decide +kernel))
theorem e166_81 : mr166 S P 81 L st sh M c s = (q_isI (q_gv L 1) ∧ mr166 S P 82 L (q_gv L 1 :: st) sh M c s) := (propext (mv_R_iff (i := .iload_n 1) (len := 1) (ax := []) (by decide +kernel))).trans (q_ldI_eq (K := fun st => mr166 S P 82 L st sh M c s))
theorem e166_82 {x : Int32} : mr166 S P 82 L [.int x] sh M c s = (mv_nr 0 x ∧ P (some (.int x)) sh M) := propext (mv_R_iff (i := .ireturn) (len := 1) (ax := [0]) (by decide +kernel))
-- 167: TurnedTabletsModel.areColours(I)Z
def mk167 : mv_Cd := [
  (0, .iconst 1, 1, []),
  (1, .istore_n 2, 1, []),
  (2, .iconst 0, 1, []),
  (3, .istore_n 3, 1, []),
  (4, .iload_n 3, 1, []),
  (5, .aload_n 0, 1, []),
  (6, .getfield 151, 3, [1028, 0, 5, 3]),
  (9, .if_icmp .ge 14, 3, [23]),
  (12, .iload_n 2, 1, []),
  (13, .bipush 10, 2, []),
  (15, .imul, 1, []),
  (16, .istore_n 2, 1, []),
  (17, .iinc 3 1, 3, []),
  (20, .goto (-16), 3, [4]),
  (23, .iload_n 1, 1, []),
  (24, .i2l, 1, []),
  (25, .lconst 0, 1, []),
  (26, .iload_n 2, 1, []),
  (27, .iconst 1, 1, []),
  (28, .isub, 1, []),
  (29, .i2l, 1, []),
  (30, .invokestatic 92, 3, [3, 144, 3, 0, 0, 0, 0, 1007, 1008, 119, 1009]),
  (33, .ireturn, 1, [1])]
def mr167 (S : Nat → mv_Sp) (P : mv_Post) : mv_Kt := mv_R mv_DF mk167 S (0, 0) P
theorem e167_0 : mr167 S P 0 L st sh M c s = (mr167 S P 1 L (.int (nI 1) :: st) sh M c s) := propext (mv_R_iff (i := .iconst 1) (len := 1) (ax := []) (by decide +kernel))
theorem e167_1 {x : Int32} : mr167 S P 1 L (.int x :: st) sh M c s = (q_hs L 2 ∧ mr167 S P 2 (L.set 2 (some (.int x))) st sh M c s) := (propext (mv_R_iff (i := .istore_n 2) (len := 1) (ax := []) (by decide +kernel))).trans (q_st_eq (K := fun L => mr167 S P 2 L st sh M c s))
theorem e167_2 : mr167 S P 2 L st sh M c s = (mr167 S P 3 L (.int (nI 0) :: st) sh M c s) := propext (mv_R_iff (i := .iconst 0) (len := 1) (ax := []) (by decide +kernel))
theorem e167_3 {x : Int32} : mr167 S P 3 L (.int x :: st) sh M c s = (q_hs L 3 ∧ mr167 S P 4 (L.set 3 (some (.int x))) st sh M c s) := (propext (mv_R_iff (i := .istore_n 3) (len := 1) (ax := []) (by decide +kernel))).trans (q_st_eq (K := fun L => mr167 S P 4 L st sh M c s))
theorem e167_4 : mr167 S P 4 L st sh M c s = (q_isI (q_gv L 3) ∧ mr167 S P 5 L (q_gv L 3 :: st) sh M c s) := (propext (mv_R_iff (i := .iload_n 3) (len := 1) (ax := []) (by decide +kernel))).trans (q_ldI_eq (K := fun st => mr167 S P 5 L st sh M c s))
theorem e167_5 : mr167 S P 5 L st sh M c s = (q_isA (q_gv L 0) ∧ mr167 S P 6 L (q_gv L 0 :: st) sh M c s) := (propext (mv_R_iff (i := .aload_n 0) (len := 1) (ax := []) (by decide +kernel))).trans (q_ldA_eq (K := fun st => mr167 S P 6 L st sh M c s))
theorem e167_6 {a : Nat} : mr167 S P 6 L (.ref a :: st) sh M c s = (mv_kgf sh M a 5 3 (mr167 S P) 9 L st c s) := propext (mv_R_iff (i := .getfield 151) (len := 3) (ax := [1028, 0, 5, 3]) (by decide +kernel))
theorem e167_9 {y : Int32} {x : Int32} : mr167 S P 9 L (.int y :: .int x :: st) sh M c s = (if y ≤ x then mr167 S P 23 L st sh M c s else mr167 S P 12 L st sh M c s) := (propext (mv_R_iff (i := .if_icmp .ge 14) (len := 3) (ax := [23]) (by decide +kernel))).trans (q_br)
theorem e167_12 : mr167 S P 12 L st sh M c s = (q_isI (q_gv L 2) ∧ mr167 S P 13 L (q_gv L 2 :: st) sh M c s) := (propext (mv_R_iff (i := .iload_n 2) (len := 1) (ax := []) (by decide +kernel))).trans (q_ldI_eq (K := fun st => mr167 S P 13 L st sh M c s))
theorem e167_13 : mr167 S P 13 L st sh M c s = (mr167 S P 15 L (.int (nI 10) :: st) sh M c s) := propext (mv_R_iff (i := .bipush 10) (len := 2) (ax := []) (by decide +kernel))
theorem e167_15 {y : Int32} {x : Int32} : mr167 S P 15 L (.int y :: .int x :: st) sh M c s = (mr167 S P 16 L (.int (x * y) :: st) sh M c s) := propext (mv_R_iff (i := .imul) (len := 1) (ax := []) (by decide +kernel))
theorem e167_16 {x : Int32} : mr167 S P 16 L (.int x :: st) sh M c s = (q_hs L 2 ∧ mr167 S P 17 (L.set 2 (some (.int x))) st sh M c s) := (propext (mv_R_iff (i := .istore_n 2) (len := 1) (ax := []) (by decide +kernel))).trans (q_st_eq (K := fun L => mr167 S P 17 L st sh M c s))
theorem e167_17 : mr167 S P 17 L st sh M c s = ((q_isI (q_gv L 3) ∧ q_hs L 3) ∧ mr167 S P 20 (L.set 3 (some (q_inc (q_gv L 3) (nI 1)))) st sh M c s) := (propext (mv_R_iff (i := .iinc 3 1) (len := 3) (ax := []) (by decide +kernel))).trans (q_inc_eq (K := fun L => mr167 S P 20 L st sh M c s))
theorem e167_20 : mr167 S P 20 L st sh M c s = (mr167 S P 4 L st sh M c s) := propext (mv_R_iff (i := .goto (-16)) (len := 3) (ax := [4]) (by decide +kernel))
theorem e167_23 : mr167 S P 23 L st sh M c s = (q_isI (q_gv L 1) ∧ mr167 S P 24 L (q_gv L 1 :: st) sh M c s) := (propext (mv_R_iff (i := .iload_n 1) (len := 1) (ax := []) (by decide +kernel))).trans (q_ldI_eq (K := fun st => mr167 S P 24 L st sh M c s))
theorem e167_24 {x : Int32} : mr167 S P 24 L (.int x :: st) sh M c s = (mr167 S P 25 L (.long x.toInt64 :: st) sh M c s) := propext (mv_R_iff (i := .i2l) (len := 1) (ax := []) (by decide +kernel))
theorem e167_25 : mr167 S P 25 L st sh M c s = (mr167 S P 26 L (.long (lN 0) :: st) sh M c s) := propext (mv_R_iff (i := .lconst 0) (len := 1) (ax := []) (by decide +kernel))
theorem e167_26 : mr167 S P 26 L st sh M c s = (q_isI (q_gv L 2) ∧ mr167 S P 27 L (q_gv L 2 :: st) sh M c s) := (propext (mv_R_iff (i := .iload_n 2) (len := 1) (ax := []) (by decide +kernel))).trans (q_ldI_eq (K := fun st => mr167 S P 27 L st sh M c s))
theorem e167_27 : mr167 S P 27 L st sh M c s = (mr167 S P 28 L (.int (nI 1) :: st) sh M c s) := propext (mv_R_iff (i := .iconst 1) (len := 1) (ax := []) (by decide +kernel))
theorem e167_28 {y : Int32} {x : Int32} : mr167 S P 28 L (.int y :: .int x :: st) sh M c s = (mr167 S P 29 L (.int (x - y) :: st) sh M c s) := propext (mv_R_iff (i := .isub) (len := 1) (ax := []) (by decide +kernel))
theorem e167_29 {x : Int32} : mr167 S P 29 L (.int x :: st) sh M c s = (mr167 S P 30 L (.long x.toInt64 :: st) sh M c s) := propext (mv_R_iff (i := .i2l) (len := 1) (ax := []) (by decide +kernel))
theorem e167_30 {v3 : Value} {v2 : Value} {v1 : Value} : mr167 S P 30 L (v3 :: v2 :: v1 :: st) sh M c s = (mv_ss st ≤ 8 ∧ c ≤ 0 ∧ s ≤ 0 ∧ True ∧ mv_kal S 144 [v1, v2, v3] sh M (mr167 S P) 33 L st c s) := (propext (mv_R_iff (i := .invokestatic 92) (len := 3) (ax := [3, 144, 3, 0, 0, 0, 0, 1007, 1008, 119, 1009]) (by decide +kernel))).trans (q_call3)
theorem e167_33 {x : Int32} : mr167 S P 33 L [.int x] sh M c s = (mv_nr 1 x ∧ P (some (.int x)) sh M) := propext (mv_R_iff (i := .ireturn) (len := 1) (ax := [1]) (by decide +kernel))
-- 168: TurnedTabletsModel.firstLike(II)I
def mk168 : mv_Cd := [
  (0, .iconst 0, 1, []),
  (1, .istore_n 3, 1, []),
  (2, .aload_n 0, 1, []),
  (3, .getfield 16, 3, [1030, 0, 5, 5]),
  (6, .iconst 4, 1, []),
  (7, .iload_n 1, 1, []),
  (8, .imul, 1, []),
  (9, .iload_n 3, 1, []),
  (10, .iadd, 1, []),
  (11, .iaload, 1, []),
  (12, .aload_n 0, 1, []),
  (13, .getfield 16, 3, [1030, 0, 5, 5]),
  (16, .iconst 4, 1, []),
  (17, .iload_n 1, 1, []),
  (18, .imul, 1, []),
  (19, .iload_n 2, 1, []),
  (20, .iadd, 1, []),
  (21, .iaload, 1, []),
  (22, .if_icmp .eq 9, 3, [31]),
  (25, .iinc 3 1, 3, []),
  (28, .goto (-26), 3, [2]),
  (31, .iload_n 3, 1, []),
  (32, .ireturn, 1, [0])]
def mr168 (S : Nat → mv_Sp) (P : mv_Post) : mv_Kt := mv_R mv_DF mk168 S (0, 0) P
theorem e168_0 : mr168 S P 0 L st sh M c s = (mr168 S P 1 L (.int (nI 0) :: st) sh M c s) := propext (mv_R_iff (i := .iconst 0) (len := 1) (ax := []) (by decide +kernel))
theorem e168_1 {x : Int32} : mr168 S P 1 L (.int x :: st) sh M c s = (q_hs L 3 ∧ mr168 S P 2 (L.set 3 (some (.int x))) st sh M c s) := (propext (mv_R_iff (i := .istore_n 3) (len := 1) (ax := []) (by decide +kernel))).trans (q_st_eq (K := fun L => mr168 S P 2 L st sh M c s))
theorem e168_2 : mr168 S P 2 L st sh M c s = (q_isA (q_gv L 0) ∧ mr168 S P 3 L (q_gv L 0 :: st) sh M c s) := (propext (mv_R_iff (i := .aload_n 0) (len := 1) (ax := []) (by decide +kernel))).trans (q_ldA_eq (K := fun st => mr168 S P 3 L st sh M c s))
theorem e168_3 {a : Nat} : mr168 S P 3 L (.ref a :: st) sh M c s = (mv_kgf sh M a 5 5 (mr168 S P) 6 L st c s) := propext (mv_R_iff (i := .getfield 16) (len := 3) (ax := [1030, 0, 5, 5]) (by decide +kernel))
theorem e168_6 : mr168 S P 6 L st sh M c s = (mr168 S P 7 L (.int (nI 4) :: st) sh M c s) := propext (mv_R_iff (i := .iconst 4) (len := 1) (ax := []) (by decide +kernel))
theorem e168_7 : mr168 S P 7 L st sh M c s = (q_isI (q_gv L 1) ∧ mr168 S P 8 L (q_gv L 1 :: st) sh M c s) := (propext (mv_R_iff (i := .iload_n 1) (len := 1) (ax := []) (by decide +kernel))).trans (q_ldI_eq (K := fun st => mr168 S P 8 L st sh M c s))
theorem e168_8 {y : Int32} {x : Int32} : mr168 S P 8 L (.int y :: .int x :: st) sh M c s = (mr168 S P 9 L (.int (x * y) :: st) sh M c s) := propext (mv_R_iff (i := .imul) (len := 1) (ax := []) (by decide +kernel))
theorem e168_9 : mr168 S P 9 L st sh M c s = (q_isI (q_gv L 3) ∧ mr168 S P 10 L (q_gv L 3 :: st) sh M c s) := (propext (mv_R_iff (i := .iload_n 3) (len := 1) (ax := []) (by decide +kernel))).trans (q_ldI_eq (K := fun st => mr168 S P 10 L st sh M c s))
theorem e168_10 {y : Int32} {x : Int32} : mr168 S P 10 L (.int y :: .int x :: st) sh M c s = (mr168 S P 11 L (.int (x + y) :: st) sh M c s) := propext (mv_R_iff (i := .iadd) (len := 1) (ax := []) (by decide +kernel))
theorem e168_11 {i : Int32} {a : Nat} : mr168 S P 11 L (.int i :: .ref a :: st) sh M c s = (mv_kld sh M a i (mr168 S P) 12 L st c s) := propext (mv_R_iff (i := .iaload) (len := 1) (ax := []) (by decide +kernel))
theorem e168_12 : mr168 S P 12 L st sh M c s = (q_isA (q_gv L 0) ∧ mr168 S P 13 L (q_gv L 0 :: st) sh M c s) := (propext (mv_R_iff (i := .aload_n 0) (len := 1) (ax := []) (by decide +kernel))).trans (q_ldA_eq (K := fun st => mr168 S P 13 L st sh M c s))
theorem e168_13 {a : Nat} : mr168 S P 13 L (.ref a :: st) sh M c s = (mv_kgf sh M a 5 5 (mr168 S P) 16 L st c s) := propext (mv_R_iff (i := .getfield 16) (len := 3) (ax := [1030, 0, 5, 5]) (by decide +kernel))
theorem e168_16 : mr168 S P 16 L st sh M c s = (mr168 S P 17 L (.int (nI 4) :: st) sh M c s) := propext (mv_R_iff (i := .iconst 4) (len := 1) (ax := []) (by decide +kernel))
theorem e168_17 : mr168 S P 17 L st sh M c s = (q_isI (q_gv L 1) ∧ mr168 S P 18 L (q_gv L 1 :: st) sh M c s) := (propext (mv_R_iff (i := .iload_n 1) (len := 1) (ax := []) (by decide +kernel))).trans (q_ldI_eq (K := fun st => mr168 S P 18 L st sh M c s))
theorem e168_18 {y : Int32} {x : Int32} : mr168 S P 18 L (.int y :: .int x :: st) sh M c s = (mr168 S P 19 L (.int (x * y) :: st) sh M c s) := propext (mv_R_iff (i := .imul) (len := 1) (ax := []) (by decide +kernel))
theorem e168_19 : mr168 S P 19 L st sh M c s = (q_isI (q_gv L 2) ∧ mr168 S P 20 L (q_gv L 2 :: st) sh M c s) := (propext (mv_R_iff (i := .iload_n 2) (len := 1) (ax := []) (by decide +kernel))).trans (q_ldI_eq (K := fun st => mr168 S P 20 L st sh M c s))
theorem e168_20 {y : Int32} {x : Int32} : mr168 S P 20 L (.int y :: .int x :: st) sh M c s = (mr168 S P 21 L (.int (x + y) :: st) sh M c s) := propext (mv_R_iff (i := .iadd) (len := 1) (ax := []) (by decide +kernel))
theorem e168_21 {i : Int32} {a : Nat} : mr168 S P 21 L (.int i :: .ref a :: st) sh M c s = (mv_kld sh M a i (mr168 S P) 22 L st c s) := propext (mv_R_iff (i := .iaload) (len := 1) (ax := []) (by decide +kernel))
theorem e168_22 {y : Int32} {x : Int32} : mr168 S P 22 L (.int y :: .int x :: st) sh M c s = (if x = y then mr168 S P 31 L st sh M c s else mr168 S P 25 L st sh M c s) := (propext (mv_R_iff (i := .if_icmp .eq 9) (len := 3) (ax := [31]) (by decide +kernel))).trans (q_br)
theorem e168_25 : mr168 S P 25 L st sh M c s = ((q_isI (q_gv L 3) ∧ q_hs L 3) ∧ mr168 S P 28 (L.set 3 (some (q_inc (q_gv L 3) (nI 1)))) st sh M c s) := (propext (mv_R_iff (i := .iinc 3 1) (len := 3) (ax := []) (by decide +kernel))).trans (q_inc_eq (K := fun L => mr168 S P 28 L st sh M c s))
theorem e168_28 : mr168 S P 28 L st sh M c s = (mr168 S P 2 L st sh M c s) := propext (mv_R_iff (i := .goto (-26)) (len := 3) (ax := [2]) (by decide +kernel))
theorem e168_31 : mr168 S P 31 L st sh M c s = (q_isI (q_gv L 3) ∧ mr168 S P 32 L (q_gv L 3 :: st) sh M c s) := (propext (mv_R_iff (i := .iload_n 3) (len := 1) (ax := []) (by decide +kernel))).trans (q_ldI_eq (K := fun st => mr168 S P 32 L st sh M c s))
theorem e168_32 {x : Int32} : mr168 S P 32 L [.int x] sh M c s = (mv_nr 0 x ∧ P (some (.int x)) sh M) := propext (mv_R_iff (i := .ireturn) (len := 1) (ax := [0]) (by decide +kernel))
-- 169: TurnedTabletsModel.layHoles()V
def mk169 : mv_Cd := [
  (0, .aload_n 0, 1, []),
  (1, .iconst 1, 1, []),
  (2, .iconst 2, 1, []),
  (3, .aload_n 0, 1, []),
  (4, .getfield 151, 3, [1028, 0, 5, 3]),
  (7, .imul, 1, []),
  (8, .ishl, 1, []),
  (9, .putfield 221, 3, [1057, 0, 5, 32, 0]),
  (12, .iconst 0, 1, []),
  (13, .istore_n 1, 1, []),
  (14, .iload_n 1, 1, []),
  (15, .iconst 2, 1, []),
  (16, .aload_n 0, 1, []),
  (17, .getfield 154, 3, [1032, 0, 5, 7]),
  (20, .imul, 1, []),
  (21, .if_icmp .ge 74, 3, [95]),
  (24, .aload_n 0, 1, []),
  (25, .getfield 52, 3, [1053, 0, 5, 28]),
  (28, .iload_n 1, 1, []),
  (29, .iconst 0, 1, []),
  (30, .iastore, 1, []),
  (31, .iconst 0, 1, []),
  (32, .istore_n 2, 1, []),
  (33, .iload_n 2, 1, []),
  (34, .aload_n 0, 1, []),
  (35, .getfield 151, 3, [1028, 0, 5, 3]),
  (38, .if_icmp .ge 51, 3, [89]),
  (41, .aload_n 0, 1, []),
  (42, .getfield 52, 3, [1053, 0, 5, 28]),
  (45, .iload_n 1, 1, []),
  (46, .dup2, 1, []),
  (47, .iaload, 1, []),
  (48, .aload_n 0, 1, []),
  (49, .getfield 22, 3, [1033, 0, 5, 8]),
  (52, .iload_n 1, 1, []),
  (53, .iconst 2, 1, []),
  (54, .idiv, 1, []),
  (55, .iaload, 1, []),
  (56, .iload_n 2, 1, []),
  (57, .invokestatic 124, 3, [3, 148, 2, 0, 0, 0, 0, 1014, 1015, 119, 1016]),
  (60, .ifCond .eq 20, 3, [80]),
  (63, .aload_n 0, 1, []),
  (64, .iload_n 2, 1, []),
  (65, .iload_n 1, 1, []),
  (66, .iconst 2, 1, []),
  (67, .irem, 1, []),
  (68, .invokevirtual 172, 3, [0, 158, 3, 5, 0, 0, 0, 1231, 1233, 89, 119, 1234]),
  (71, .iconst 3, 1, []),
  (72, .iand, 1, []),
  (73, .iconst 2, 1, []),
  (74, .iload_n 2, 1, []),
  (75, .imul, 1, []),
  (76, .ishl, 1, []),
  (77, .goto 4, 3, [81]),
  (80, .iconst 0, 1, []),
  (81, .ior, 1, []),
  (82, .iastore, 1, []),
  (83, .iinc 2 1, 3, []),
  (86, .goto (-53), 3, [33]),
  (89, .iinc 1 1, 3, []),
  (92, .goto (-78), 3, [14]),
  (95, .iconst 0, 1, []),
  (96, .istore_n 1, 1, []),
  (97, .iload_n 1, 1, []),
  (98, .aload_n 0, 1, []),
  (99, .getfield 221, 3, [1057, 0, 5, 32]),
  (102, .if_icmp .ge 91, 3, [193]),
  (105, .iconst 0, 1, []),
  (106, .istore_n 2, 1, []),
  (107, .iconst 0, 1, []),
  (108, .istore_n 3, 1, []),
  (109, .iconst 0, 1, []),
  (110, .istore 4, 2, []),
  (112, .iload 4, 2, []),
  (114, .aload_n 0, 1, []),
  (115, .getfield 151, 3, [1028, 0, 5, 3]),
  (118, .if_icmp .ge 55, 3, [173]),
  (121, .bipush 10, 2, []),
  (123, .iload_n 2, 1, []),
  (124, .imul, 1, []),
  (125, .aload_n 0, 1, []),
  (126, .getfield 16, 3, [1030, 0, 5, 5]),
  (129, .iconst 4, 1, []),
  (130, .iload 4, 2, []),
  (132, .imul, 1, []),
  (133, .iload_n 1, 1, []),
  (134, .iconst 2, 1, []),
  (135, .iload 4, 2, []),
  (137, .imul, 1, []),
  (138, .ishr, 1, []),
  (139, .iconst 3, 1, []),
  (140, .iand, 1, []),
  (141, .iadd, 1, []),
  (142, .iaload, 1, []),
  (143, .iadd, 1, []),
  (144, .istore_n 2, 1, []),
  (145, .iload_n 3, 1, []),
  (146, .aload_n 0, 1, []),
  (147, .iload 4, 2, []),
  (149, .iload_n 1, 1, []),
  (150, .iconst 2, 1, []),
  (151, .iload 4, 2, []),
  (153, .imul, 1, []),
  (154, .ishr, 1, []),
  (155, .iconst 3, 1, []),
  (156, .iand, 1, []),
  (157, .invokevirtual 224, 3, [0, 168, 3, 5, 0, 0, 0, 1295, 1297, 94, 119, 1298]),
  (160, .iconst 2, 1, []),
  (161, .iload 4, 2, []),
  (163, .imul, 1, []),
  (164, .ishl, 1, []),
  (165, .ior, 1, []),
  (166, .istore_n 3, 1, []),
  (167, .iinc 4 1, 3, []),
  (170, .goto (-58), 3, [112]),
  (173, .aload_n 0, 1, []),
  (174, .getfield 55, 3, [1054, 0, 5, 29]),
  (177, .iload_n 1, 1, []),
  (178, .iload_n 2, 1, []),
  (179, .iastore, 1, []),
  (180, .aload_n 0, 1, []),
  (181, .getfield 58, 3, [1055, 0, 5, 30]),
  (184, .iload_n 1, 1, []),
  (185, .iload_n 3, 1, []),
  (186, .iastore, 1, []),
  (187, .iinc 1 1, 3, []),
  (190, .goto (-93), 3, [97]),
  (193, .return_, 1, [])]
def mr169 (S : Nat → mv_Sp) (P : mv_Post) : mv_Kt := mv_R mv_DF mk169 S (0, 0) P
theorem e169_0 : mr169 S P 0 L st sh M c s = (q_isA (q_gv L 0) ∧ mr169 S P 1 L (q_gv L 0 :: st) sh M c s) := (propext (mv_R_iff (i := .aload_n 0) (len := 1) (ax := []) (by decide +kernel))).trans (q_ldA_eq (K := fun st => mr169 S P 1 L st sh M c s))
theorem e169_1 : mr169 S P 1 L st sh M c s = (mr169 S P 2 L (.int (nI 1) :: st) sh M c s) := propext (mv_R_iff (i := .iconst 1) (len := 1) (ax := []) (by decide +kernel))
theorem e169_2 : mr169 S P 2 L st sh M c s = (mr169 S P 3 L (.int (nI 2) :: st) sh M c s) := propext (mv_R_iff (i := .iconst 2) (len := 1) (ax := []) (by decide +kernel))
theorem e169_3 : mr169 S P 3 L st sh M c s = (q_isA (q_gv L 0) ∧ mr169 S P 4 L (q_gv L 0 :: st) sh M c s) := (propext (mv_R_iff (i := .aload_n 0) (len := 1) (ax := []) (by decide +kernel))).trans (q_ldA_eq (K := fun st => mr169 S P 4 L st sh M c s))
theorem e169_4 {a : Nat} : mr169 S P 4 L (.ref a :: st) sh M c s = (mv_kgf sh M a 5 3 (mr169 S P) 7 L st c s) := propext (mv_R_iff (i := .getfield 151) (len := 3) (ax := [1028, 0, 5, 3]) (by decide +kernel))
theorem e169_7 {y : Int32} {x : Int32} : mr169 S P 7 L (.int y :: .int x :: st) sh M c s = (mr169 S P 8 L (.int (x * y) :: st) sh M c s) := propext (mv_R_iff (i := .imul) (len := 1) (ax := []) (by decide +kernel))
theorem e169_8 {y : Int32} {x : Int32} : mr169 S P 8 L (.int y :: .int x :: st) sh M c s = (mr169 S P 9 L (.int (x <<< (y &&& 31)) :: st) sh M c s) := propext (mv_R_iff (i := .ishl) (len := 1) (ax := []) (by decide +kernel))
theorem e169_9 {x : Int32} {a : Nat} : mr169 S P 9 L (.int x :: .ref a :: st) sh M c s = (True ∧ mv_kpf sh M a 5 32 x (mr169 S P) 12 L st c s) := propext (mv_R_iff (i := .putfield 221) (len := 3) (ax := [1057, 0, 5, 32, 0]) (by decide +kernel))
theorem e169_12 : mr169 S P 12 L st sh M c s = (mr169 S P 13 L (.int (nI 0) :: st) sh M c s) := propext (mv_R_iff (i := .iconst 0) (len := 1) (ax := []) (by decide +kernel))
theorem e169_13 {x : Int32} : mr169 S P 13 L (.int x :: st) sh M c s = (q_hs L 1 ∧ mr169 S P 14 (L.set 1 (some (.int x))) st sh M c s) := (propext (mv_R_iff (i := .istore_n 1) (len := 1) (ax := []) (by decide +kernel))).trans (q_st_eq (K := fun L => mr169 S P 14 L st sh M c s))
theorem e169_14 : mr169 S P 14 L st sh M c s = (q_isI (q_gv L 1) ∧ mr169 S P 15 L (q_gv L 1 :: st) sh M c s) := (propext (mv_R_iff (i := .iload_n 1) (len := 1) (ax := []) (by decide +kernel))).trans (q_ldI_eq (K := fun st => mr169 S P 15 L st sh M c s))
theorem e169_15 : mr169 S P 15 L st sh M c s = (mr169 S P 16 L (.int (nI 2) :: st) sh M c s) := propext (mv_R_iff (i := .iconst 2) (len := 1) (ax := []) (by decide +kernel))
theorem e169_16 : mr169 S P 16 L st sh M c s = (q_isA (q_gv L 0) ∧ mr169 S P 17 L (q_gv L 0 :: st) sh M c s) := (propext (mv_R_iff (i := .aload_n 0) (len := 1) (ax := []) (by decide +kernel))).trans (q_ldA_eq (K := fun st => mr169 S P 17 L st sh M c s))
theorem e169_17 {a : Nat} : mr169 S P 17 L (.ref a :: st) sh M c s = (mv_kgf sh M a 5 7 (mr169 S P) 20 L st c s) := propext (mv_R_iff (i := .getfield 154) (len := 3) (ax := [1032, 0, 5, 7]) (by decide +kernel))
theorem e169_20 {y : Int32} {x : Int32} : mr169 S P 20 L (.int y :: .int x :: st) sh M c s = (mr169 S P 21 L (.int (x * y) :: st) sh M c s) := propext (mv_R_iff (i := .imul) (len := 1) (ax := []) (by decide +kernel))
theorem e169_21 {y : Int32} {x : Int32} : mr169 S P 21 L (.int y :: .int x :: st) sh M c s = (if y ≤ x then mr169 S P 95 L st sh M c s else mr169 S P 24 L st sh M c s) := (propext (mv_R_iff (i := .if_icmp .ge 74) (len := 3) (ax := [95]) (by decide +kernel))).trans (q_br)
theorem e169_24 : mr169 S P 24 L st sh M c s = (q_isA (q_gv L 0) ∧ mr169 S P 25 L (q_gv L 0 :: st) sh M c s) := (propext (mv_R_iff (i := .aload_n 0) (len := 1) (ax := []) (by decide +kernel))).trans (q_ldA_eq (K := fun st => mr169 S P 25 L st sh M c s))
theorem e169_25 {a : Nat} : mr169 S P 25 L (.ref a :: st) sh M c s = (mv_kgf sh M a 5 28 (mr169 S P) 28 L st c s) := propext (mv_R_iff (i := .getfield 52) (len := 3) (ax := [1053, 0, 5, 28]) (by decide +kernel))
theorem e169_28 : mr169 S P 28 L st sh M c s = (q_isI (q_gv L 1) ∧ mr169 S P 29 L (q_gv L 1 :: st) sh M c s) := (propext (mv_R_iff (i := .iload_n 1) (len := 1) (ax := []) (by decide +kernel))).trans (q_ldI_eq (K := fun st => mr169 S P 29 L st sh M c s))
theorem e169_29 : mr169 S P 29 L st sh M c s = (mr169 S P 30 L (.int (nI 0) :: st) sh M c s) := propext (mv_R_iff (i := .iconst 0) (len := 1) (ax := []) (by decide +kernel))
theorem e169_30 {x : Int32} {i : Int32} {a : Nat} : mr169 S P 30 L (.int x :: .int i :: .ref a :: st) sh M c s = (mv_kst sh M a i x (mr169 S P) 31 L st c s) := propext (mv_R_iff (i := .iastore) (len := 1) (ax := []) (by decide +kernel))
theorem e169_31 : mr169 S P 31 L st sh M c s = (mr169 S P 32 L (.int (nI 0) :: st) sh M c s) := propext (mv_R_iff (i := .iconst 0) (len := 1) (ax := []) (by decide +kernel))
theorem e169_32 {x : Int32} : mr169 S P 32 L (.int x :: st) sh M c s = (q_hs L 2 ∧ mr169 S P 33 (L.set 2 (some (.int x))) st sh M c s) := (propext (mv_R_iff (i := .istore_n 2) (len := 1) (ax := []) (by decide +kernel))).trans (q_st_eq (K := fun L => mr169 S P 33 L st sh M c s))
theorem e169_33 : mr169 S P 33 L st sh M c s = (q_isI (q_gv L 2) ∧ mr169 S P 34 L (q_gv L 2 :: st) sh M c s) := (propext (mv_R_iff (i := .iload_n 2) (len := 1) (ax := []) (by decide +kernel))).trans (q_ldI_eq (K := fun st => mr169 S P 34 L st sh M c s))
theorem e169_34 : mr169 S P 34 L st sh M c s = (q_isA (q_gv L 0) ∧ mr169 S P 35 L (q_gv L 0 :: st) sh M c s) := (propext (mv_R_iff (i := .aload_n 0) (len := 1) (ax := []) (by decide +kernel))).trans (q_ldA_eq (K := fun st => mr169 S P 35 L st sh M c s))
theorem e169_35 {a : Nat} : mr169 S P 35 L (.ref a :: st) sh M c s = (mv_kgf sh M a 5 3 (mr169 S P) 38 L st c s) := propext (mv_R_iff (i := .getfield 151) (len := 3) (ax := [1028, 0, 5, 3]) (by decide +kernel))
theorem e169_38 {y : Int32} {x : Int32} : mr169 S P 38 L (.int y :: .int x :: st) sh M c s = (if y ≤ x then mr169 S P 89 L st sh M c s else mr169 S P 41 L st sh M c s) := (propext (mv_R_iff (i := .if_icmp .ge 51) (len := 3) (ax := [89]) (by decide +kernel))).trans (q_br)
theorem e169_41 : mr169 S P 41 L st sh M c s = (q_isA (q_gv L 0) ∧ mr169 S P 42 L (q_gv L 0 :: st) sh M c s) := (propext (mv_R_iff (i := .aload_n 0) (len := 1) (ax := []) (by decide +kernel))).trans (q_ldA_eq (K := fun st => mr169 S P 42 L st sh M c s))
theorem e169_42 {a : Nat} : mr169 S P 42 L (.ref a :: st) sh M c s = (mv_kgf sh M a 5 28 (mr169 S P) 45 L st c s) := propext (mv_R_iff (i := .getfield 52) (len := 3) (ax := [1053, 0, 5, 28]) (by decide +kernel))
theorem e169_45 : mr169 S P 45 L st sh M c s = (q_isI (q_gv L 1) ∧ mr169 S P 46 L (q_gv L 1 :: st) sh M c s) := (propext (mv_R_iff (i := .iload_n 1) (len := 1) (ax := []) (by decide +kernel))).trans (q_ldI_eq (K := fun st => mr169 S P 46 L st sh M c s))
theorem e169_46 {x : Int32} {y : Int32} : mr169 S P 46 L (.int x :: .int y :: st) sh M c s = (mr169 S P 47 L (.int x :: .int y :: .int x :: .int y :: st) sh M c s) := propext (mv_R_iff (i := .dup2) (len := 1) (ax := []) (by decide +kernel))
theorem e169_46q {x : Int32} {y : Nat} : mr169 S P 46 L (.int x :: .ref y :: st) sh M c s = (mr169 S P 47 L (.int x :: .ref y :: .int x :: .ref y :: st) sh M c s) := propext (mv_R_iff (i := .dup2) (len := 1) (ax := []) (by decide +kernel))
theorem e169_46r {x : Nat} {y : Int32} : mr169 S P 46 L (.ref x :: .int y :: st) sh M c s = (mr169 S P 47 L (.ref x :: .int y :: .ref x :: .int y :: st) sh M c s) := propext (mv_R_iff (i := .dup2) (len := 1) (ax := []) (by decide +kernel))
theorem e169_46rq {x : Nat} {y : Nat} : mr169 S P 46 L (.ref x :: .ref y :: st) sh M c s = (mr169 S P 47 L (.ref x :: .ref y :: .ref x :: .ref y :: st) sh M c s) := propext (mv_R_iff (i := .dup2) (len := 1) (ax := []) (by decide +kernel))
theorem e169_47 {i : Int32} {a : Nat} : mr169 S P 47 L (.int i :: .ref a :: st) sh M c s = (mv_kld sh M a i (mr169 S P) 48 L st c s) := propext (mv_R_iff (i := .iaload) (len := 1) (ax := []) (by decide +kernel))
theorem e169_48 : mr169 S P 48 L st sh M c s = (q_isA (q_gv L 0) ∧ mr169 S P 49 L (q_gv L 0 :: st) sh M c s) := (propext (mv_R_iff (i := .aload_n 0) (len := 1) (ax := []) (by decide +kernel))).trans (q_ldA_eq (K := fun st => mr169 S P 49 L st sh M c s))
theorem e169_49 {a : Nat} : mr169 S P 49 L (.ref a :: st) sh M c s = (mv_kgf sh M a 5 8 (mr169 S P) 52 L st c s) := propext (mv_R_iff (i := .getfield 22) (len := 3) (ax := [1033, 0, 5, 8]) (by decide +kernel))
theorem e169_52 : mr169 S P 52 L st sh M c s = (q_isI (q_gv L 1) ∧ mr169 S P 53 L (q_gv L 1 :: st) sh M c s) := (propext (mv_R_iff (i := .iload_n 1) (len := 1) (ax := []) (by decide +kernel))).trans (q_ldI_eq (K := fun st => mr169 S P 53 L st sh M c s))
theorem e169_53 : mr169 S P 53 L st sh M c s = (mr169 S P 54 L (.int (nI 2) :: st) sh M c s) := propext (mv_R_iff (i := .iconst 2) (len := 1) (ax := []) (by decide +kernel))
theorem e169_54 {y : Int32} {x : Int32} : mr169 S P 54 L (.int y :: .int x :: st) sh M c s = (¬ y = nI 0 ∧ mr169 S P 55 L (.int (x / y) :: st) sh M c s) := propext (mv_R_iff (i := .idiv) (len := 1) (ax := []) (by decide +kernel))
theorem e169_55 {i : Int32} {a : Nat} : mr169 S P 55 L (.int i :: .ref a :: st) sh M c s = (mv_kld sh M a i (mr169 S P) 56 L st c s) := propext (mv_R_iff (i := .iaload) (len := 1) (ax := []) (by decide +kernel))
theorem e169_56 : mr169 S P 56 L st sh M c s = (q_isI (q_gv L 2) ∧ mr169 S P 57 L (q_gv L 2 :: st) sh M c s) := (propext (mv_R_iff (i := .iload_n 2) (len := 1) (ax := []) (by decide +kernel))).trans (q_ldI_eq (K := fun st => mr169 S P 57 L st sh M c s))
theorem e169_57 {v2 : Value} {v1 : Value} : mr169 S P 57 L (v2 :: v1 :: st) sh M c s = (mv_ss st ≤ 8 ∧ c ≤ 0 ∧ s ≤ 0 ∧ True ∧ mv_kal S 148 [v1, v2] sh M (mr169 S P) 60 L st c s) := (propext (mv_R_iff (i := .invokestatic 124) (len := 3) (ax := [3, 148, 2, 0, 0, 0, 0, 1014, 1015, 119, 1016]) (by decide +kernel))).trans (q_call3)
theorem e169_60 {x : Int32} : mr169 S P 60 L (.int x :: st) sh M c s = (if x = nI 0 then mr169 S P 80 L st sh M c s else mr169 S P 63 L st sh M c s) := (propext (mv_R_iff (i := .ifCond .eq 20) (len := 3) (ax := [80]) (by decide +kernel))).trans (q_br)
theorem e169_63 : mr169 S P 63 L st sh M c s = (q_isA (q_gv L 0) ∧ mr169 S P 64 L (q_gv L 0 :: st) sh M c s) := (propext (mv_R_iff (i := .aload_n 0) (len := 1) (ax := []) (by decide +kernel))).trans (q_ldA_eq (K := fun st => mr169 S P 64 L st sh M c s))
theorem e169_64 : mr169 S P 64 L st sh M c s = (q_isI (q_gv L 2) ∧ mr169 S P 65 L (q_gv L 2 :: st) sh M c s) := (propext (mv_R_iff (i := .iload_n 2) (len := 1) (ax := []) (by decide +kernel))).trans (q_ldI_eq (K := fun st => mr169 S P 65 L st sh M c s))
theorem e169_65 : mr169 S P 65 L st sh M c s = (q_isI (q_gv L 1) ∧ mr169 S P 66 L (q_gv L 1 :: st) sh M c s) := (propext (mv_R_iff (i := .iload_n 1) (len := 1) (ax := []) (by decide +kernel))).trans (q_ldI_eq (K := fun st => mr169 S P 66 L st sh M c s))
theorem e169_66 : mr169 S P 66 L st sh M c s = (mr169 S P 67 L (.int (nI 2) :: st) sh M c s) := propext (mv_R_iff (i := .iconst 2) (len := 1) (ax := []) (by decide +kernel))
theorem e169_67 {y : Int32} {x : Int32} : mr169 S P 67 L (.int y :: .int x :: st) sh M c s = (¬ y = nI 0 ∧ mr169 S P 68 L (.int (q_rm x y) :: st) sh M c s) := propext (mv_R_iff (i := .irem) (len := 1) (ax := []) (by decide +kernel))
theorem e169_68 {v3 : Value} {v2 : Value} {v1 : Value} : mr169 S P 68 L (v3 :: v2 :: v1 :: st) sh M c s = (mv_ss st ≤ 8 ∧ c ≤ 0 ∧ s ≤ 0 ∧ mv_isO sh (some v1) 5 ∧ mv_kal S 158 [v1, v2, v3] sh M (mr169 S P) 71 L st c s) := (propext (mv_R_iff (i := .invokevirtual 172) (len := 3) (ax := [0, 158, 3, 5, 0, 0, 0, 1231, 1233, 89, 119, 1234]) (by decide +kernel))).trans (q_call0)
theorem e169_71 : mr169 S P 71 L st sh M c s = (mr169 S P 72 L (.int (nI 3) :: st) sh M c s) := propext (mv_R_iff (i := .iconst 3) (len := 1) (ax := []) (by decide +kernel))
theorem e169_72 {y : Int32} {x : Int32} : mr169 S P 72 L (.int y :: .int x :: st) sh M c s = (mr169 S P 73 L (.int (x &&& y) :: st) sh M c s) := propext (mv_R_iff (i := .iand) (len := 1) (ax := []) (by decide +kernel))
theorem e169_73 : mr169 S P 73 L st sh M c s = (mr169 S P 74 L (.int (nI 2) :: st) sh M c s) := propext (mv_R_iff (i := .iconst 2) (len := 1) (ax := []) (by decide +kernel))
theorem e169_74 : mr169 S P 74 L st sh M c s = (q_isI (q_gv L 2) ∧ mr169 S P 75 L (q_gv L 2 :: st) sh M c s) := (propext (mv_R_iff (i := .iload_n 2) (len := 1) (ax := []) (by decide +kernel))).trans (q_ldI_eq (K := fun st => mr169 S P 75 L st sh M c s))
theorem e169_75 {y : Int32} {x : Int32} : mr169 S P 75 L (.int y :: .int x :: st) sh M c s = (mr169 S P 76 L (.int (x * y) :: st) sh M c s) := propext (mv_R_iff (i := .imul) (len := 1) (ax := []) (by decide +kernel))
theorem e169_76 {y : Int32} {x : Int32} : mr169 S P 76 L (.int y :: .int x :: st) sh M c s = (mr169 S P 77 L (.int (x <<< (y &&& 31)) :: st) sh M c s) := propext (mv_R_iff (i := .ishl) (len := 1) (ax := []) (by decide +kernel))
theorem e169_77 : mr169 S P 77 L st sh M c s = (mr169 S P 81 L st sh M c s) := propext (mv_R_iff (i := .goto 4) (len := 3) (ax := [81]) (by decide +kernel))
theorem e169_80 : mr169 S P 80 L st sh M c s = (mr169 S P 81 L (.int (nI 0) :: st) sh M c s) := propext (mv_R_iff (i := .iconst 0) (len := 1) (ax := []) (by decide +kernel))
theorem e169_81 {y : Int32} {x : Int32} : mr169 S P 81 L (.int y :: .int x :: st) sh M c s = (mr169 S P 82 L (.int (x ||| y) :: st) sh M c s) := propext (mv_R_iff (i := .ior) (len := 1) (ax := []) (by decide +kernel))
theorem e169_82 {x : Int32} {i : Int32} {a : Nat} : mr169 S P 82 L (.int x :: .int i :: .ref a :: st) sh M c s = (mv_kst sh M a i x (mr169 S P) 83 L st c s) := propext (mv_R_iff (i := .iastore) (len := 1) (ax := []) (by decide +kernel))
theorem e169_83 : mr169 S P 83 L st sh M c s = ((q_isI (q_gv L 2) ∧ q_hs L 2) ∧ mr169 S P 86 (L.set 2 (some (q_inc (q_gv L 2) (nI 1)))) st sh M c s) := (propext (mv_R_iff (i := .iinc 2 1) (len := 3) (ax := []) (by decide +kernel))).trans (q_inc_eq (K := fun L => mr169 S P 86 L st sh M c s))
theorem e169_86 : mr169 S P 86 L st sh M c s = (mr169 S P 33 L st sh M c s) := propext (mv_R_iff (i := .goto (-53)) (len := 3) (ax := [33]) (by decide +kernel))
theorem e169_89 : mr169 S P 89 L st sh M c s = ((q_isI (q_gv L 1) ∧ q_hs L 1) ∧ mr169 S P 92 (L.set 1 (some (q_inc (q_gv L 1) (nI 1)))) st sh M c s) := (propext (mv_R_iff (i := .iinc 1 1) (len := 3) (ax := []) (by decide +kernel))).trans (q_inc_eq (K := fun L => mr169 S P 92 L st sh M c s))
theorem e169_92 : mr169 S P 92 L st sh M c s = (mr169 S P 14 L st sh M c s) := propext (mv_R_iff (i := .goto (-78)) (len := 3) (ax := [14]) (by decide +kernel))
theorem e169_95 : mr169 S P 95 L st sh M c s = (mr169 S P 96 L (.int (nI 0) :: st) sh M c s) := propext (mv_R_iff (i := .iconst 0) (len := 1) (ax := []) (by decide +kernel))
theorem e169_96 {x : Int32} : mr169 S P 96 L (.int x :: st) sh M c s = (q_hs L 1 ∧ mr169 S P 97 (L.set 1 (some (.int x))) st sh M c s) := (propext (mv_R_iff (i := .istore_n 1) (len := 1) (ax := []) (by decide +kernel))).trans (q_st_eq (K := fun L => mr169 S P 97 L st sh M c s))
theorem e169_97 : mr169 S P 97 L st sh M c s = (q_isI (q_gv L 1) ∧ mr169 S P 98 L (q_gv L 1 :: st) sh M c s) := (propext (mv_R_iff (i := .iload_n 1) (len := 1) (ax := []) (by decide +kernel))).trans (q_ldI_eq (K := fun st => mr169 S P 98 L st sh M c s))
theorem e169_98 : mr169 S P 98 L st sh M c s = (q_isA (q_gv L 0) ∧ mr169 S P 99 L (q_gv L 0 :: st) sh M c s) := (propext (mv_R_iff (i := .aload_n 0) (len := 1) (ax := []) (by decide +kernel))).trans (q_ldA_eq (K := fun st => mr169 S P 99 L st sh M c s))
theorem e169_99 {a : Nat} : mr169 S P 99 L (.ref a :: st) sh M c s = (mv_kgf sh M a 5 32 (mr169 S P) 102 L st c s) := propext (mv_R_iff (i := .getfield 221) (len := 3) (ax := [1057, 0, 5, 32]) (by decide +kernel))
theorem e169_102 {y : Int32} {x : Int32} : mr169 S P 102 L (.int y :: .int x :: st) sh M c s = (if y ≤ x then mr169 S P 193 L st sh M c s else mr169 S P 105 L st sh M c s) := (propext (mv_R_iff (i := .if_icmp .ge 91) (len := 3) (ax := [193]) (by decide +kernel))).trans (q_br)
theorem e169_105 : mr169 S P 105 L st sh M c s = (mr169 S P 106 L (.int (nI 0) :: st) sh M c s) := propext (mv_R_iff (i := .iconst 0) (len := 1) (ax := []) (by decide +kernel))
theorem e169_106 {x : Int32} : mr169 S P 106 L (.int x :: st) sh M c s = (q_hs L 2 ∧ mr169 S P 107 (L.set 2 (some (.int x))) st sh M c s) := (propext (mv_R_iff (i := .istore_n 2) (len := 1) (ax := []) (by decide +kernel))).trans (q_st_eq (K := fun L => mr169 S P 107 L st sh M c s))
theorem e169_107 : mr169 S P 107 L st sh M c s = (mr169 S P 108 L (.int (nI 0) :: st) sh M c s) := propext (mv_R_iff (i := .iconst 0) (len := 1) (ax := []) (by decide +kernel))
theorem e169_108 {x : Int32} : mr169 S P 108 L (.int x :: st) sh M c s = (q_hs L 3 ∧ mr169 S P 109 (L.set 3 (some (.int x))) st sh M c s) := (propext (mv_R_iff (i := .istore_n 3) (len := 1) (ax := []) (by decide +kernel))).trans (q_st_eq (K := fun L => mr169 S P 109 L st sh M c s))
theorem e169_109 : mr169 S P 109 L st sh M c s = (mr169 S P 110 L (.int (nI 0) :: st) sh M c s) := propext (mv_R_iff (i := .iconst 0) (len := 1) (ax := []) (by decide +kernel))
theorem e169_110 {x : Int32} : mr169 S P 110 L (.int x :: st) sh M c s = (q_hs L 4 ∧ mr169 S P 112 (L.set 4 (some (.int x))) st sh M c s) := (propext (mv_R_iff (i := .istore 4) (len := 2) (ax := []) (by decide +kernel))).trans (q_st_eq (K := fun L => mr169 S P 112 L st sh M c s))
theorem e169_112 : mr169 S P 112 L st sh M c s = (q_isI (q_gv L 4) ∧ mr169 S P 114 L (q_gv L 4 :: st) sh M c s) := (propext (mv_R_iff (i := .iload 4) (len := 2) (ax := []) (by decide +kernel))).trans (q_ldI_eq (K := fun st => mr169 S P 114 L st sh M c s))
theorem e169_114 : mr169 S P 114 L st sh M c s = (q_isA (q_gv L 0) ∧ mr169 S P 115 L (q_gv L 0 :: st) sh M c s) := (propext (mv_R_iff (i := .aload_n 0) (len := 1) (ax := []) (by decide +kernel))).trans (q_ldA_eq (K := fun st => mr169 S P 115 L st sh M c s))
theorem e169_115 {a : Nat} : mr169 S P 115 L (.ref a :: st) sh M c s = (mv_kgf sh M a 5 3 (mr169 S P) 118 L st c s) := propext (mv_R_iff (i := .getfield 151) (len := 3) (ax := [1028, 0, 5, 3]) (by decide +kernel))
theorem e169_118 {y : Int32} {x : Int32} : mr169 S P 118 L (.int y :: .int x :: st) sh M c s = (if y ≤ x then mr169 S P 173 L st sh M c s else mr169 S P 121 L st sh M c s) := (propext (mv_R_iff (i := .if_icmp .ge 55) (len := 3) (ax := [173]) (by decide +kernel))).trans (q_br)
theorem e169_121 : mr169 S P 121 L st sh M c s = (mr169 S P 123 L (.int (nI 10) :: st) sh M c s) := propext (mv_R_iff (i := .bipush 10) (len := 2) (ax := []) (by decide +kernel))
theorem e169_123 : mr169 S P 123 L st sh M c s = (q_isI (q_gv L 2) ∧ mr169 S P 124 L (q_gv L 2 :: st) sh M c s) := (propext (mv_R_iff (i := .iload_n 2) (len := 1) (ax := []) (by decide +kernel))).trans (q_ldI_eq (K := fun st => mr169 S P 124 L st sh M c s))
theorem e169_124 {y : Int32} {x : Int32} : mr169 S P 124 L (.int y :: .int x :: st) sh M c s = (mr169 S P 125 L (.int (x * y) :: st) sh M c s) := propext (mv_R_iff (i := .imul) (len := 1) (ax := []) (by decide +kernel))
theorem e169_125 : mr169 S P 125 L st sh M c s = (q_isA (q_gv L 0) ∧ mr169 S P 126 L (q_gv L 0 :: st) sh M c s) := (propext (mv_R_iff (i := .aload_n 0) (len := 1) (ax := []) (by decide +kernel))).trans (q_ldA_eq (K := fun st => mr169 S P 126 L st sh M c s))
theorem e169_126 {a : Nat} : mr169 S P 126 L (.ref a :: st) sh M c s = (mv_kgf sh M a 5 5 (mr169 S P) 129 L st c s) := propext (mv_R_iff (i := .getfield 16) (len := 3) (ax := [1030, 0, 5, 5]) (by decide +kernel))
theorem e169_129 : mr169 S P 129 L st sh M c s = (mr169 S P 130 L (.int (nI 4) :: st) sh M c s) := propext (mv_R_iff (i := .iconst 4) (len := 1) (ax := []) (by decide +kernel))
theorem e169_130 : mr169 S P 130 L st sh M c s = (q_isI (q_gv L 4) ∧ mr169 S P 132 L (q_gv L 4 :: st) sh M c s) := (propext (mv_R_iff (i := .iload 4) (len := 2) (ax := []) (by decide +kernel))).trans (q_ldI_eq (K := fun st => mr169 S P 132 L st sh M c s))
theorem e169_132 {y : Int32} {x : Int32} : mr169 S P 132 L (.int y :: .int x :: st) sh M c s = (mr169 S P 133 L (.int (x * y) :: st) sh M c s) := propext (mv_R_iff (i := .imul) (len := 1) (ax := []) (by decide +kernel))
theorem e169_133 : mr169 S P 133 L st sh M c s = (q_isI (q_gv L 1) ∧ mr169 S P 134 L (q_gv L 1 :: st) sh M c s) := (propext (mv_R_iff (i := .iload_n 1) (len := 1) (ax := []) (by decide +kernel))).trans (q_ldI_eq (K := fun st => mr169 S P 134 L st sh M c s))
theorem e169_134 : mr169 S P 134 L st sh M c s = (mr169 S P 135 L (.int (nI 2) :: st) sh M c s) := propext (mv_R_iff (i := .iconst 2) (len := 1) (ax := []) (by decide +kernel))
theorem e169_135 : mr169 S P 135 L st sh M c s = (q_isI (q_gv L 4) ∧ mr169 S P 137 L (q_gv L 4 :: st) sh M c s) := (propext (mv_R_iff (i := .iload 4) (len := 2) (ax := []) (by decide +kernel))).trans (q_ldI_eq (K := fun st => mr169 S P 137 L st sh M c s))
theorem e169_137 {y : Int32} {x : Int32} : mr169 S P 137 L (.int y :: .int x :: st) sh M c s = (mr169 S P 138 L (.int (x * y) :: st) sh M c s) := propext (mv_R_iff (i := .imul) (len := 1) (ax := []) (by decide +kernel))
theorem e169_138 {y : Int32} {x : Int32} : mr169 S P 138 L (.int y :: .int x :: st) sh M c s = (mr169 S P 139 L (.int (x >>> (y &&& 31)) :: st) sh M c s) := propext (mv_R_iff (i := .ishr) (len := 1) (ax := []) (by decide +kernel))
theorem e169_139 : mr169 S P 139 L st sh M c s = (mr169 S P 140 L (.int (nI 3) :: st) sh M c s) := propext (mv_R_iff (i := .iconst 3) (len := 1) (ax := []) (by decide +kernel))
theorem e169_140 {y : Int32} {x : Int32} : mr169 S P 140 L (.int y :: .int x :: st) sh M c s = (mr169 S P 141 L (.int (x &&& y) :: st) sh M c s) := propext (mv_R_iff (i := .iand) (len := 1) (ax := []) (by decide +kernel))
theorem e169_141 {y : Int32} {x : Int32} : mr169 S P 141 L (.int y :: .int x :: st) sh M c s = (mr169 S P 142 L (.int (x + y) :: st) sh M c s) := propext (mv_R_iff (i := .iadd) (len := 1) (ax := []) (by decide +kernel))
theorem e169_142 {i : Int32} {a : Nat} : mr169 S P 142 L (.int i :: .ref a :: st) sh M c s = (mv_kld sh M a i (mr169 S P) 143 L st c s) := propext (mv_R_iff (i := .iaload) (len := 1) (ax := []) (by decide +kernel))
theorem e169_143 {y : Int32} {x : Int32} : mr169 S P 143 L (.int y :: .int x :: st) sh M c s = (mr169 S P 144 L (.int (x + y) :: st) sh M c s) := propext (mv_R_iff (i := .iadd) (len := 1) (ax := []) (by decide +kernel))
theorem e169_144 {x : Int32} : mr169 S P 144 L (.int x :: st) sh M c s = (q_hs L 2 ∧ mr169 S P 145 (L.set 2 (some (.int x))) st sh M c s) := (propext (mv_R_iff (i := .istore_n 2) (len := 1) (ax := []) (by decide +kernel))).trans (q_st_eq (K := fun L => mr169 S P 145 L st sh M c s))
theorem e169_145 : mr169 S P 145 L st sh M c s = (q_isI (q_gv L 3) ∧ mr169 S P 146 L (q_gv L 3 :: st) sh M c s) := (propext (mv_R_iff (i := .iload_n 3) (len := 1) (ax := []) (by decide +kernel))).trans (q_ldI_eq (K := fun st => mr169 S P 146 L st sh M c s))
theorem e169_146 : mr169 S P 146 L st sh M c s = (q_isA (q_gv L 0) ∧ mr169 S P 147 L (q_gv L 0 :: st) sh M c s) := (propext (mv_R_iff (i := .aload_n 0) (len := 1) (ax := []) (by decide +kernel))).trans (q_ldA_eq (K := fun st => mr169 S P 147 L st sh M c s))
theorem e169_147 : mr169 S P 147 L st sh M c s = (q_isI (q_gv L 4) ∧ mr169 S P 149 L (q_gv L 4 :: st) sh M c s) := (propext (mv_R_iff (i := .iload 4) (len := 2) (ax := []) (by decide +kernel))).trans (q_ldI_eq (K := fun st => mr169 S P 149 L st sh M c s))
theorem e169_149 : mr169 S P 149 L st sh M c s = (q_isI (q_gv L 1) ∧ mr169 S P 150 L (q_gv L 1 :: st) sh M c s) := (propext (mv_R_iff (i := .iload_n 1) (len := 1) (ax := []) (by decide +kernel))).trans (q_ldI_eq (K := fun st => mr169 S P 150 L st sh M c s))
theorem e169_150 : mr169 S P 150 L st sh M c s = (mr169 S P 151 L (.int (nI 2) :: st) sh M c s) := propext (mv_R_iff (i := .iconst 2) (len := 1) (ax := []) (by decide +kernel))
theorem e169_151 : mr169 S P 151 L st sh M c s = (q_isI (q_gv L 4) ∧ mr169 S P 153 L (q_gv L 4 :: st) sh M c s) := (propext (mv_R_iff (i := .iload 4) (len := 2) (ax := []) (by decide +kernel))).trans (q_ldI_eq (K := fun st => mr169 S P 153 L st sh M c s))
theorem e169_153 {y : Int32} {x : Int32} : mr169 S P 153 L (.int y :: .int x :: st) sh M c s = (mr169 S P 154 L (.int (x * y) :: st) sh M c s) := propext (mv_R_iff (i := .imul) (len := 1) (ax := []) (by decide +kernel))
theorem e169_154 {y : Int32} {x : Int32} : mr169 S P 154 L (.int y :: .int x :: st) sh M c s = (mr169 S P 155 L (.int (x >>> (y &&& 31)) :: st) sh M c s) := propext (mv_R_iff (i := .ishr) (len := 1) (ax := []) (by decide +kernel))
theorem e169_155 : mr169 S P 155 L st sh M c s = (mr169 S P 156 L (.int (nI 3) :: st) sh M c s) := propext (mv_R_iff (i := .iconst 3) (len := 1) (ax := []) (by decide +kernel))
theorem e169_156 {y : Int32} {x : Int32} : mr169 S P 156 L (.int y :: .int x :: st) sh M c s = (mr169 S P 157 L (.int (x &&& y) :: st) sh M c s) := propext (mv_R_iff (i := .iand) (len := 1) (ax := []) (by decide +kernel))
theorem e169_157 {v3 : Value} {v2 : Value} {v1 : Value} : mr169 S P 157 L (v3 :: v2 :: v1 :: st) sh M c s = (mv_ss st ≤ 8 ∧ c ≤ 0 ∧ s ≤ 0 ∧ mv_isO sh (some v1) 5 ∧ mv_kal S 168 [v1, v2, v3] sh M (mr169 S P) 160 L st c s) := (propext (mv_R_iff (i := .invokevirtual 224) (len := 3) (ax := [0, 168, 3, 5, 0, 0, 0, 1295, 1297, 94, 119, 1298]) (by decide +kernel))).trans (q_call0)
theorem e169_160 : mr169 S P 160 L st sh M c s = (mr169 S P 161 L (.int (nI 2) :: st) sh M c s) := propext (mv_R_iff (i := .iconst 2) (len := 1) (ax := []) (by decide +kernel))
theorem e169_161 : mr169 S P 161 L st sh M c s = (q_isI (q_gv L 4) ∧ mr169 S P 163 L (q_gv L 4 :: st) sh M c s) := (propext (mv_R_iff (i := .iload 4) (len := 2) (ax := []) (by decide +kernel))).trans (q_ldI_eq (K := fun st => mr169 S P 163 L st sh M c s))
theorem e169_163 {y : Int32} {x : Int32} : mr169 S P 163 L (.int y :: .int x :: st) sh M c s = (mr169 S P 164 L (.int (x * y) :: st) sh M c s) := propext (mv_R_iff (i := .imul) (len := 1) (ax := []) (by decide +kernel))
theorem e169_164 {y : Int32} {x : Int32} : mr169 S P 164 L (.int y :: .int x :: st) sh M c s = (mr169 S P 165 L (.int (x <<< (y &&& 31)) :: st) sh M c s) := propext (mv_R_iff (i := .ishl) (len := 1) (ax := []) (by decide +kernel))
theorem e169_165 {y : Int32} {x : Int32} : mr169 S P 165 L (.int y :: .int x :: st) sh M c s = (mr169 S P 166 L (.int (x ||| y) :: st) sh M c s) := propext (mv_R_iff (i := .ior) (len := 1) (ax := []) (by decide +kernel))
theorem e169_166 {x : Int32} : mr169 S P 166 L (.int x :: st) sh M c s = (q_hs L 3 ∧ mr169 S P 167 (L.set 3 (some (.int x))) st sh M c s) := (propext (mv_R_iff (i := .istore_n 3) (len := 1) (ax := []) (by decide +kernel))).trans (q_st_eq (K := fun L => mr169 S P 167 L st sh M c s))
theorem e169_167 : mr169 S P 167 L st sh M c s = ((q_isI (q_gv L 4) ∧ q_hs L 4) ∧ mr169 S P 170 (L.set 4 (some (q_inc (q_gv L 4) (nI 1)))) st sh M c s) := (propext (mv_R_iff (i := .iinc 4 1) (len := 3) (ax := []) (by decide +kernel))).trans (q_inc_eq (K := fun L => mr169 S P 170 L st sh M c s))
theorem e169_170 : mr169 S P 170 L st sh M c s = (mr169 S P 112 L st sh M c s) := propext (mv_R_iff (i := .goto (-58)) (len := 3) (ax := [112]) (by decide +kernel))
theorem e169_173 : mr169 S P 173 L st sh M c s = (q_isA (q_gv L 0) ∧ mr169 S P 174 L (q_gv L 0 :: st) sh M c s) := (propext (mv_R_iff (i := .aload_n 0) (len := 1) (ax := []) (by decide +kernel))).trans (q_ldA_eq (K := fun st => mr169 S P 174 L st sh M c s))
theorem e169_174 {a : Nat} : mr169 S P 174 L (.ref a :: st) sh M c s = (mv_kgf sh M a 5 29 (mr169 S P) 177 L st c s) := propext (mv_R_iff (i := .getfield 55) (len := 3) (ax := [1054, 0, 5, 29]) (by decide +kernel))
theorem e169_177 : mr169 S P 177 L st sh M c s = (q_isI (q_gv L 1) ∧ mr169 S P 178 L (q_gv L 1 :: st) sh M c s) := (propext (mv_R_iff (i := .iload_n 1) (len := 1) (ax := []) (by decide +kernel))).trans (q_ldI_eq (K := fun st => mr169 S P 178 L st sh M c s))
theorem e169_178 : mr169 S P 178 L st sh M c s = (q_isI (q_gv L 2) ∧ mr169 S P 179 L (q_gv L 2 :: st) sh M c s) := (propext (mv_R_iff (i := .iload_n 2) (len := 1) (ax := []) (by decide +kernel))).trans (q_ldI_eq (K := fun st => mr169 S P 179 L st sh M c s))
theorem e169_179 {x : Int32} {i : Int32} {a : Nat} : mr169 S P 179 L (.int x :: .int i :: .ref a :: st) sh M c s = (mv_kst sh M a i x (mr169 S P) 180 L st c s) := propext (mv_R_iff (i := .iastore) (len := 1) (ax := []) (by decide +kernel))
theorem e169_180 : mr169 S P 180 L st sh M c s = (q_isA (q_gv L 0) ∧ mr169 S P 181 L (q_gv L 0 :: st) sh M c s) := (propext (mv_R_iff (i := .aload_n 0) (len := 1) (ax := []) (by decide +kernel))).trans (q_ldA_eq (K := fun st => mr169 S P 181 L st sh M c s))
theorem e169_181 {a : Nat} : mr169 S P 181 L (.ref a :: st) sh M c s = (mv_kgf sh M a 5 30 (mr169 S P) 184 L st c s) := propext (mv_R_iff (i := .getfield 58) (len := 3) (ax := [1055, 0, 5, 30]) (by decide +kernel))
theorem e169_184 : mr169 S P 184 L st sh M c s = (q_isI (q_gv L 1) ∧ mr169 S P 185 L (q_gv L 1 :: st) sh M c s) := (propext (mv_R_iff (i := .iload_n 1) (len := 1) (ax := []) (by decide +kernel))).trans (q_ldI_eq (K := fun st => mr169 S P 185 L st sh M c s))
theorem e169_185 : mr169 S P 185 L st sh M c s = (q_isI (q_gv L 3) ∧ mr169 S P 186 L (q_gv L 3 :: st) sh M c s) := (propext (mv_R_iff (i := .iload_n 3) (len := 1) (ax := []) (by decide +kernel))).trans (q_ldI_eq (K := fun st => mr169 S P 186 L st sh M c s))
theorem e169_186 {x : Int32} {i : Int32} {a : Nat} : mr169 S P 186 L (.int x :: .int i :: .ref a :: st) sh M c s = (mv_kst sh M a i x (mr169 S P) 187 L st c s) := propext (mv_R_iff (i := .iastore) (len := 1) (ax := []) (by decide +kernel))
theorem e169_187 : mr169 S P 187 L st sh M c s = ((q_isI (q_gv L 1) ∧ q_hs L 1) ∧ mr169 S P 190 (L.set 1 (some (q_inc (q_gv L 1) (nI 1)))) st sh M c s) := (propext (mv_R_iff (i := .iinc 1 1) (len := 3) (ax := []) (by decide +kernel))).trans (q_inc_eq (K := fun L => mr169 S P 190 L st sh M c s))
theorem e169_190 : mr169 S P 190 L st sh M c s = (mr169 S P 97 L st sh M c s) := propext (mv_R_iff (i := .goto (-93)) (len := 3) (ax := [97]) (by decide +kernel))
theorem e169_193 : mr169 S P 193 L [] sh M c s = (P none sh M) := propext (mv_R_iff (i := .return_) (len := 1) (ax := []) (by decide +kernel))
-- 170: TurnedTabletsModel.holesNow()I
def mk170 : mv_Cd := [
  (0, .iconst 0, 1, []),
  (1, .istore_n 1, 1, []),
  (2, .iconst 0, 1, []),
  (3, .istore_n 2, 1, []),
  (4, .iload_n 2, 1, []),
  (5, .aload_n 0, 1, []),
  (6, .getfield 151, 3, [1028, 0, 5, 3]),
  (9, .if_icmp .ge 25, 3, [34]),
  (12, .iload_n 1, 1, []),
  (13, .aload_n 0, 1, []),
  (14, .getfield 7, 3, [1025, 0, 5, 0]),
  (17, .bipush 6, 2, []),
  (19, .iload_n 2, 1, []),
  (20, .iadd, 1, []),
  (21, .iaload, 1, []),
  (22, .iconst 2, 1, []),
  (23, .iload_n 2, 1, []),
  (24, .imul, 1, []),
  (25, .ishl, 1, []),
  (26, .ior, 1, []),
  (27, .istore_n 1, 1, []),
  (28, .iinc 2 1, 3, []),
  (31, .goto (-27), 3, [4]),
  (34, .iload_n 1, 1, []),
  (35, .ireturn, 1, [0])]
def mr170 (S : Nat → mv_Sp) (P : mv_Post) : mv_Kt := mv_R mv_DF mk170 S (0, 0) P
theorem e170_0 : mr170 S P 0 L st sh M c s = (mr170 S P 1 L (.int (nI 0) :: st) sh M c s) := propext (mv_R_iff (i := .iconst 0) (len := 1) (ax := []) (by decide +kernel))
theorem e170_1 {x : Int32} : mr170 S P 1 L (.int x :: st) sh M c s = (q_hs L 1 ∧ mr170 S P 2 (L.set 1 (some (.int x))) st sh M c s) := (propext (mv_R_iff (i := .istore_n 1) (len := 1) (ax := []) (by decide +kernel))).trans (q_st_eq (K := fun L => mr170 S P 2 L st sh M c s))
theorem e170_2 : mr170 S P 2 L st sh M c s = (mr170 S P 3 L (.int (nI 0) :: st) sh M c s) := propext (mv_R_iff (i := .iconst 0) (len := 1) (ax := []) (by decide +kernel))
theorem e170_3 {x : Int32} : mr170 S P 3 L (.int x :: st) sh M c s = (q_hs L 2 ∧ mr170 S P 4 (L.set 2 (some (.int x))) st sh M c s) := (propext (mv_R_iff (i := .istore_n 2) (len := 1) (ax := []) (by decide +kernel))).trans (q_st_eq (K := fun L => mr170 S P 4 L st sh M c s))
theorem e170_4 : mr170 S P 4 L st sh M c s = (q_isI (q_gv L 2) ∧ mr170 S P 5 L (q_gv L 2 :: st) sh M c s) := (propext (mv_R_iff (i := .iload_n 2) (len := 1) (ax := []) (by decide +kernel))).trans (q_ldI_eq (K := fun st => mr170 S P 5 L st sh M c s))
theorem e170_5 : mr170 S P 5 L st sh M c s = (q_isA (q_gv L 0) ∧ mr170 S P 6 L (q_gv L 0 :: st) sh M c s) := (propext (mv_R_iff (i := .aload_n 0) (len := 1) (ax := []) (by decide +kernel))).trans (q_ldA_eq (K := fun st => mr170 S P 6 L st sh M c s))
theorem e170_6 {a : Nat} : mr170 S P 6 L (.ref a :: st) sh M c s = (mv_kgf sh M a 5 3 (mr170 S P) 9 L st c s) := propext (mv_R_iff (i := .getfield 151) (len := 3) (ax := [1028, 0, 5, 3]) (by decide +kernel))
theorem e170_9 {y : Int32} {x : Int32} : mr170 S P 9 L (.int y :: .int x :: st) sh M c s = (if y ≤ x then mr170 S P 34 L st sh M c s else mr170 S P 12 L st sh M c s) := (propext (mv_R_iff (i := .if_icmp .ge 25) (len := 3) (ax := [34]) (by decide +kernel))).trans (q_br)
theorem e170_12 : mr170 S P 12 L st sh M c s = (q_isI (q_gv L 1) ∧ mr170 S P 13 L (q_gv L 1 :: st) sh M c s) := (propext (mv_R_iff (i := .iload_n 1) (len := 1) (ax := []) (by decide +kernel))).trans (q_ldI_eq (K := fun st => mr170 S P 13 L st sh M c s))
theorem e170_13 : mr170 S P 13 L st sh M c s = (q_isA (q_gv L 0) ∧ mr170 S P 14 L (q_gv L 0 :: st) sh M c s) := (propext (mv_R_iff (i := .aload_n 0) (len := 1) (ax := []) (by decide +kernel))).trans (q_ldA_eq (K := fun st => mr170 S P 14 L st sh M c s))
theorem e170_14 {a : Nat} : mr170 S P 14 L (.ref a :: st) sh M c s = (mv_kgf sh M a 5 0 (mr170 S P) 17 L st c s) := propext (mv_R_iff (i := .getfield 7) (len := 3) (ax := [1025, 0, 5, 0]) (by decide +kernel))
theorem e170_17 : mr170 S P 17 L st sh M c s = (mr170 S P 19 L (.int (nI 6) :: st) sh M c s) := propext (mv_R_iff (i := .bipush 6) (len := 2) (ax := []) (by decide +kernel))
theorem e170_19 : mr170 S P 19 L st sh M c s = (q_isI (q_gv L 2) ∧ mr170 S P 20 L (q_gv L 2 :: st) sh M c s) := (propext (mv_R_iff (i := .iload_n 2) (len := 1) (ax := []) (by decide +kernel))).trans (q_ldI_eq (K := fun st => mr170 S P 20 L st sh M c s))
theorem e170_20 {y : Int32} {x : Int32} : mr170 S P 20 L (.int y :: .int x :: st) sh M c s = (mr170 S P 21 L (.int (x + y) :: st) sh M c s) := propext (mv_R_iff (i := .iadd) (len := 1) (ax := []) (by decide +kernel))
theorem e170_21 {i : Int32} {a : Nat} : mr170 S P 21 L (.int i :: .ref a :: st) sh M c s = (mv_kld sh M a i (mr170 S P) 22 L st c s) := propext (mv_R_iff (i := .iaload) (len := 1) (ax := []) (by decide +kernel))
theorem e170_22 : mr170 S P 22 L st sh M c s = (mr170 S P 23 L (.int (nI 2) :: st) sh M c s) := propext (mv_R_iff (i := .iconst 2) (len := 1) (ax := []) (by decide +kernel))
theorem e170_23 : mr170 S P 23 L st sh M c s = (q_isI (q_gv L 2) ∧ mr170 S P 24 L (q_gv L 2 :: st) sh M c s) := (propext (mv_R_iff (i := .iload_n 2) (len := 1) (ax := []) (by decide +kernel))).trans (q_ldI_eq (K := fun st => mr170 S P 24 L st sh M c s))
theorem e170_24 {y : Int32} {x : Int32} : mr170 S P 24 L (.int y :: .int x :: st) sh M c s = (mr170 S P 25 L (.int (x * y) :: st) sh M c s) := propext (mv_R_iff (i := .imul) (len := 1) (ax := []) (by decide +kernel))
theorem e170_25 {y : Int32} {x : Int32} : mr170 S P 25 L (.int y :: .int x :: st) sh M c s = (mr170 S P 26 L (.int (x <<< (y &&& 31)) :: st) sh M c s) := propext (mv_R_iff (i := .ishl) (len := 1) (ax := []) (by decide +kernel))
theorem e170_26 {y : Int32} {x : Int32} : mr170 S P 26 L (.int y :: .int x :: st) sh M c s = (mr170 S P 27 L (.int (x ||| y) :: st) sh M c s) := propext (mv_R_iff (i := .ior) (len := 1) (ax := []) (by decide +kernel))
theorem e170_27 {x : Int32} : mr170 S P 27 L (.int x :: st) sh M c s = (q_hs L 1 ∧ mr170 S P 28 (L.set 1 (some (.int x))) st sh M c s) := (propext (mv_R_iff (i := .istore_n 1) (len := 1) (ax := []) (by decide +kernel))).trans (q_st_eq (K := fun L => mr170 S P 28 L st sh M c s))
theorem e170_28 : mr170 S P 28 L st sh M c s = ((q_isI (q_gv L 2) ∧ q_hs L 2) ∧ mr170 S P 31 (L.set 2 (some (q_inc (q_gv L 2) (nI 1)))) st sh M c s) := (propext (mv_R_iff (i := .iinc 2 1) (len := 3) (ax := []) (by decide +kernel))).trans (q_inc_eq (K := fun L => mr170 S P 31 L st sh M c s))
theorem e170_31 : mr170 S P 31 L st sh M c s = (mr170 S P 4 L st sh M c s) := propext (mv_R_iff (i := .goto (-27)) (len := 3) (ax := [4]) (by decide +kernel))
theorem e170_34 : mr170 S P 34 L st sh M c s = (q_isI (q_gv L 1) ∧ mr170 S P 35 L (q_gv L 1 :: st) sh M c s) := (propext (mv_R_iff (i := .iload_n 1) (len := 1) (ax := []) (by decide +kernel))).trans (q_ldI_eq (K := fun st => mr170 S P 35 L st sh M c s))
theorem e170_35 {x : Int32} : mr170 S P 35 L [.int x] sh M c s = (mv_nr 0 x ∧ P (some (.int x)) sh M) := propext (mv_R_iff (i := .ireturn) (len := 1) (ax := [0]) (by decide +kernel))
-- 171: TurnedTabletsModel.plus(II)I
def mk171 : mv_Cd := [
  (0, .iload_n 0, 1, []),
  (1, .iload_n 1, 1, []),
  (2, .ixor, 1, []),
  (3, .iload_n 0, 1, []),
  (4, .iload_n 1, 1, []),
  (5, .iand, 1, []),
  (6, .sipush 1365, 3, []),
  (9, .iand, 1, []),
  (10, .iconst 1, 1, []),
  (11, .ishl, 1, []),
  (12, .ixor, 1, []),
  (13, .ireturn, 1, [0])]
def mr171 (S : Nat → mv_Sp) (P : mv_Post) : mv_Kt := mv_R mv_DF mk171 S (0, 0) P
theorem e171_0 : mr171 S P 0 L st sh M c s = (q_isI (q_gv L 0) ∧ mr171 S P 1 L (q_gv L 0 :: st) sh M c s) := (propext (mv_R_iff (i := .iload_n 0) (len := 1) (ax := []) (by decide +kernel))).trans (q_ldI_eq (K := fun st => mr171 S P 1 L st sh M c s))
theorem e171_1 : mr171 S P 1 L st sh M c s = (q_isI (q_gv L 1) ∧ mr171 S P 2 L (q_gv L 1 :: st) sh M c s) := (propext (mv_R_iff (i := .iload_n 1) (len := 1) (ax := []) (by decide +kernel))).trans (q_ldI_eq (K := fun st => mr171 S P 2 L st sh M c s))
theorem e171_2 {y : Int32} {x : Int32} : mr171 S P 2 L (.int y :: .int x :: st) sh M c s = (mr171 S P 3 L (.int (x ^^^ y) :: st) sh M c s) := propext (mv_R_iff (i := .ixor) (len := 1) (ax := []) (by decide +kernel))
theorem e171_3 : mr171 S P 3 L st sh M c s = (q_isI (q_gv L 0) ∧ mr171 S P 4 L (q_gv L 0 :: st) sh M c s) := (propext (mv_R_iff (i := .iload_n 0) (len := 1) (ax := []) (by decide +kernel))).trans (q_ldI_eq (K := fun st => mr171 S P 4 L st sh M c s))
theorem e171_4 : mr171 S P 4 L st sh M c s = (q_isI (q_gv L 1) ∧ mr171 S P 5 L (q_gv L 1 :: st) sh M c s) := (propext (mv_R_iff (i := .iload_n 1) (len := 1) (ax := []) (by decide +kernel))).trans (q_ldI_eq (K := fun st => mr171 S P 5 L st sh M c s))
theorem e171_5 {y : Int32} {x : Int32} : mr171 S P 5 L (.int y :: .int x :: st) sh M c s = (mr171 S P 6 L (.int (x &&& y) :: st) sh M c s) := propext (mv_R_iff (i := .iand) (len := 1) (ax := []) (by decide +kernel))
theorem e171_6 : mr171 S P 6 L st sh M c s = (mr171 S P 9 L (.int (nI 1365) :: st) sh M c s) := propext (mv_R_iff (i := .sipush 1365) (len := 3) (ax := []) (by decide +kernel))
theorem e171_9 {y : Int32} {x : Int32} : mr171 S P 9 L (.int y :: .int x :: st) sh M c s = (mr171 S P 10 L (.int (x &&& y) :: st) sh M c s) := propext (mv_R_iff (i := .iand) (len := 1) (ax := []) (by decide +kernel))
theorem e171_10 : mr171 S P 10 L st sh M c s = (mr171 S P 11 L (.int (nI 1) :: st) sh M c s) := propext (mv_R_iff (i := .iconst 1) (len := 1) (ax := []) (by decide +kernel))
theorem e171_11 {y : Int32} {x : Int32} : mr171 S P 11 L (.int y :: .int x :: st) sh M c s = (mr171 S P 12 L (.int (x <<< (y &&& 31)) :: st) sh M c s) := propext (mv_R_iff (i := .ishl) (len := 1) (ax := []) (by decide +kernel))
theorem e171_12 {y : Int32} {x : Int32} : mr171 S P 12 L (.int y :: .int x :: st) sh M c s = (mr171 S P 13 L (.int (x ^^^ y) :: st) sh M c s) := propext (mv_R_iff (i := .ixor) (len := 1) (ax := []) (by decide +kernel))
theorem e171_13 {x : Int32} : mr171 S P 13 L [.int x] sh M c s = (mv_nr 0 x ∧ P (some (.int x)) sh M) := propext (mv_R_iff (i := .ireturn) (len := 1) (ax := [0]) (by decide +kernel))
-- 172: TurnedTabletsModel.amiss(I)I
def mk172 : mv_Cd := [
  (0, .aload_n 0, 1, []),
  (1, .iload_n 1, 1, []),
  (2, .invokevirtual 243, 3, [0, 167, 2, 5, 0, 0, 0, 1287, 1289, 92, 119, 1290]),
  (5, .ifCond .ne 5, 3, [10]),
  (8, .iconst (-1), 1, []),
  (9, .ireturn, 1, [0]),
  (10, .aload_n 0, 1, []),
  (11, .invokevirtual 246, 3, [0, 169, 1, 5, 0, 0, 0, 1291, 1293, 93, 119, 1294]),
  (14, .iconst 0, 1, []),
  (15, .istore_n 2, 1, []),
  (16, .iconst 0, 1, []),
  (17, .istore_n 3, 1, []),
  (18, .iload_n 3, 1, []),
  (19, .aload_n 0, 1, []),
  (20, .getfield 151, 3, [1028, 0, 5, 3]),
  (23, .if_icmp .ge 72, 3, [95]),
  (26, .iload_n 2, 1, []),
  (27, .aload_n 0, 1, []),
  (28, .getfield 55, 3, [1054, 0, 5, 29]),
  (31, .aload_n 0, 1, []),
  (32, .invokevirtual 237, 3, [0, 170, 1, 5, 0, 0, 0, 1307, 1309, 97, 119, 1310]),
  (35, .iconst 1, 1, []),
  (36, .iconst 2, 1, []),
  (37, .iload_n 3, 1, []),
  (38, .imul, 1, []),
  (39, .ishl, 1, []),
  (40, .invokestatic 230, 3, [3, 171, 2, 0, 0, 0, 0, 1319, 1320, 119, 1321]),
  (43, .iaload, 1, []),
  (44, .iload_n 1, 1, []),
  (45, .if_icmp .ne 9, 3, [54]),
  (48, .iconst 1, 1, []),
  (49, .iload_n 3, 1, []),
  (50, .ishl, 1, []),
  (51, .goto 4, 3, [55]),
  (54, .iconst 0, 1, []),
  (55, .ior, 1, []),
  (56, .istore_n 2, 1, []),
  (57, .iload_n 2, 1, []),
  (58, .aload_n 0, 1, []),
  (59, .getfield 55, 3, [1054, 0, 5, 29]),
  (62, .aload_n 0, 1, []),
  (63, .invokevirtual 237, 3, [0, 170, 1, 5, 0, 0, 0, 1307, 1309, 97, 119, 1310]),
  (66, .iconst 3, 1, []),
  (67, .iconst 2, 1, []),
  (68, .iload_n 3, 1, []),
  (69, .imul, 1, []),
  (70, .ishl, 1, []),
  (71, .invokestatic 230, 3, [3, 171, 2, 0, 0, 0, 0, 1319, 1320, 119, 1321]),
  (74, .iaload, 1, []),
  (75, .iload_n 1, 1, []),
  (76, .if_icmp .ne 10, 3, [86]),
  (79, .bipush 64, 2, []),
  (81, .iload_n 3, 1, []),
  (82, .ishl, 1, []),
  (83, .goto 4, 3, [87]),
  (86, .iconst 0, 1, []),
  (87, .ior, 1, []),
  (88, .istore_n 2, 1, []),
  (89, .iinc 3 1, 3, []),
  (92, .goto (-74), 3, [18]),
  (95, .iload_n 2, 1, []),
  (96, .ireturn, 1, [0])]
def mr172 (S : Nat → mv_Sp) (P : mv_Post) : mv_Kt := mv_R mv_DF mk172 S (0, 0) P
theorem e172_0 : mr172 S P 0 L st sh M c s = (q_isA (q_gv L 0) ∧ mr172 S P 1 L (q_gv L 0 :: st) sh M c s) := (propext (mv_R_iff (i := .aload_n 0) (len := 1) (ax := []) (by decide +kernel))).trans (q_ldA_eq (K := fun st => mr172 S P 1 L st sh M c s))
theorem e172_1 : mr172 S P 1 L st sh M c s = (q_isI (q_gv L 1) ∧ mr172 S P 2 L (q_gv L 1 :: st) sh M c s) := (propext (mv_R_iff (i := .iload_n 1) (len := 1) (ax := []) (by decide +kernel))).trans (q_ldI_eq (K := fun st => mr172 S P 2 L st sh M c s))
theorem e172_2 {v2 : Value} {v1 : Value} : mr172 S P 2 L (v2 :: v1 :: st) sh M c s = (mv_ss st ≤ 8 ∧ c ≤ 0 ∧ s ≤ 0 ∧ mv_isO sh (some v1) 5 ∧ mv_kal S 167 [v1, v2] sh M (mr172 S P) 5 L st c s) := (propext (mv_R_iff (i := .invokevirtual 243) (len := 3) (ax := [0, 167, 2, 5, 0, 0, 0, 1287, 1289, 92, 119, 1290]) (by decide +kernel))).trans (q_call0)
theorem e172_5 {x : Int32} : mr172 S P 5 L (.int x :: st) sh M c s = (if x = nI 0 then mr172 S P 8 L st sh M c s else mr172 S P 10 L st sh M c s) := (propext (mv_R_iff (i := .ifCond .ne 5) (len := 3) (ax := [10]) (by decide +kernel))).trans (q_br')
theorem e172_8 : mr172 S P 8 L st sh M c s = (mr172 S P 9 L (.int (Int32.ofInt (-1)) :: st) sh M c s) := propext (mv_R_iff (i := .iconst (-1)) (len := 1) (ax := []) (by decide +kernel))
theorem e172_9 {x : Int32} : mr172 S P 9 L [.int x] sh M c s = (mv_nr 0 x ∧ P (some (.int x)) sh M) := propext (mv_R_iff (i := .ireturn) (len := 1) (ax := [0]) (by decide +kernel))
theorem e172_10 : mr172 S P 10 L st sh M c s = (q_isA (q_gv L 0) ∧ mr172 S P 11 L (q_gv L 0 :: st) sh M c s) := (propext (mv_R_iff (i := .aload_n 0) (len := 1) (ax := []) (by decide +kernel))).trans (q_ldA_eq (K := fun st => mr172 S P 11 L st sh M c s))
theorem e172_11 {v1 : Value} : mr172 S P 11 L (v1 :: st) sh M c s = (mv_ss st ≤ 8 ∧ c ≤ 0 ∧ s ≤ 0 ∧ mv_isO sh (some v1) 5 ∧ mv_kal S 169 [v1] sh M (mr172 S P) 14 L st c s) := (propext (mv_R_iff (i := .invokevirtual 246) (len := 3) (ax := [0, 169, 1, 5, 0, 0, 0, 1291, 1293, 93, 119, 1294]) (by decide +kernel))).trans (q_call0)
theorem e172_14 : mr172 S P 14 L st sh M c s = (mr172 S P 15 L (.int (nI 0) :: st) sh M c s) := propext (mv_R_iff (i := .iconst 0) (len := 1) (ax := []) (by decide +kernel))
theorem e172_15 {x : Int32} : mr172 S P 15 L (.int x :: st) sh M c s = (q_hs L 2 ∧ mr172 S P 16 (L.set 2 (some (.int x))) st sh M c s) := (propext (mv_R_iff (i := .istore_n 2) (len := 1) (ax := []) (by decide +kernel))).trans (q_st_eq (K := fun L => mr172 S P 16 L st sh M c s))
theorem e172_16 : mr172 S P 16 L st sh M c s = (mr172 S P 17 L (.int (nI 0) :: st) sh M c s) := propext (mv_R_iff (i := .iconst 0) (len := 1) (ax := []) (by decide +kernel))
theorem e172_17 {x : Int32} : mr172 S P 17 L (.int x :: st) sh M c s = (q_hs L 3 ∧ mr172 S P 18 (L.set 3 (some (.int x))) st sh M c s) := (propext (mv_R_iff (i := .istore_n 3) (len := 1) (ax := []) (by decide +kernel))).trans (q_st_eq (K := fun L => mr172 S P 18 L st sh M c s))
theorem e172_18 : mr172 S P 18 L st sh M c s = (q_isI (q_gv L 3) ∧ mr172 S P 19 L (q_gv L 3 :: st) sh M c s) := (propext (mv_R_iff (i := .iload_n 3) (len := 1) (ax := []) (by decide +kernel))).trans (q_ldI_eq (K := fun st => mr172 S P 19 L st sh M c s))
theorem e172_19 : mr172 S P 19 L st sh M c s = (q_isA (q_gv L 0) ∧ mr172 S P 20 L (q_gv L 0 :: st) sh M c s) := (propext (mv_R_iff (i := .aload_n 0) (len := 1) (ax := []) (by decide +kernel))).trans (q_ldA_eq (K := fun st => mr172 S P 20 L st sh M c s))
theorem e172_20 {a : Nat} : mr172 S P 20 L (.ref a :: st) sh M c s = (mv_kgf sh M a 5 3 (mr172 S P) 23 L st c s) := propext (mv_R_iff (i := .getfield 151) (len := 3) (ax := [1028, 0, 5, 3]) (by decide +kernel))
theorem e172_23 {y : Int32} {x : Int32} : mr172 S P 23 L (.int y :: .int x :: st) sh M c s = (if y ≤ x then mr172 S P 95 L st sh M c s else mr172 S P 26 L st sh M c s) := (propext (mv_R_iff (i := .if_icmp .ge 72) (len := 3) (ax := [95]) (by decide +kernel))).trans (q_br)
theorem e172_26 : mr172 S P 26 L st sh M c s = (q_isI (q_gv L 2) ∧ mr172 S P 27 L (q_gv L 2 :: st) sh M c s) := (propext (mv_R_iff (i := .iload_n 2) (len := 1) (ax := []) (by decide +kernel))).trans (q_ldI_eq (K := fun st => mr172 S P 27 L st sh M c s))
theorem e172_27 : mr172 S P 27 L st sh M c s = (q_isA (q_gv L 0) ∧ mr172 S P 28 L (q_gv L 0 :: st) sh M c s) := (propext (mv_R_iff (i := .aload_n 0) (len := 1) (ax := []) (by decide +kernel))).trans (q_ldA_eq (K := fun st => mr172 S P 28 L st sh M c s))
theorem e172_28 {a : Nat} : mr172 S P 28 L (.ref a :: st) sh M c s = (mv_kgf sh M a 5 29 (mr172 S P) 31 L st c s) := propext (mv_R_iff (i := .getfield 55) (len := 3) (ax := [1054, 0, 5, 29]) (by decide +kernel))
theorem e172_31 : mr172 S P 31 L st sh M c s = (q_isA (q_gv L 0) ∧ mr172 S P 32 L (q_gv L 0 :: st) sh M c s) := (propext (mv_R_iff (i := .aload_n 0) (len := 1) (ax := []) (by decide +kernel))).trans (q_ldA_eq (K := fun st => mr172 S P 32 L st sh M c s))
theorem e172_32 {v1 : Value} : mr172 S P 32 L (v1 :: st) sh M c s = (mv_ss st ≤ 8 ∧ c ≤ 0 ∧ s ≤ 0 ∧ mv_isO sh (some v1) 5 ∧ mv_kal S 170 [v1] sh M (mr172 S P) 35 L st c s) := (propext (mv_R_iff (i := .invokevirtual 237) (len := 3) (ax := [0, 170, 1, 5, 0, 0, 0, 1307, 1309, 97, 119, 1310]) (by decide +kernel))).trans (q_call0)
theorem e172_35 : mr172 S P 35 L st sh M c s = (mr172 S P 36 L (.int (nI 1) :: st) sh M c s) := propext (mv_R_iff (i := .iconst 1) (len := 1) (ax := []) (by decide +kernel))
theorem e172_36 : mr172 S P 36 L st sh M c s = (mr172 S P 37 L (.int (nI 2) :: st) sh M c s) := propext (mv_R_iff (i := .iconst 2) (len := 1) (ax := []) (by decide +kernel))
theorem e172_37 : mr172 S P 37 L st sh M c s = (q_isI (q_gv L 3) ∧ mr172 S P 38 L (q_gv L 3 :: st) sh M c s) := (propext (mv_R_iff (i := .iload_n 3) (len := 1) (ax := []) (by decide +kernel))).trans (q_ldI_eq (K := fun st => mr172 S P 38 L st sh M c s))
theorem e172_38 {y : Int32} {x : Int32} : mr172 S P 38 L (.int y :: .int x :: st) sh M c s = (mr172 S P 39 L (.int (x * y) :: st) sh M c s) := propext (mv_R_iff (i := .imul) (len := 1) (ax := []) (by decide +kernel))
theorem e172_39 {y : Int32} {x : Int32} : mr172 S P 39 L (.int y :: .int x :: st) sh M c s = (mr172 S P 40 L (.int (x <<< (y &&& 31)) :: st) sh M c s) := propext (mv_R_iff (i := .ishl) (len := 1) (ax := []) (by decide +kernel))
theorem e172_40 {v2 : Value} {v1 : Value} : mr172 S P 40 L (v2 :: v1 :: st) sh M c s = (mv_ss st ≤ 8 ∧ c ≤ 0 ∧ s ≤ 0 ∧ True ∧ mv_kal S 171 [v1, v2] sh M (mr172 S P) 43 L st c s) := (propext (mv_R_iff (i := .invokestatic 230) (len := 3) (ax := [3, 171, 2, 0, 0, 0, 0, 1319, 1320, 119, 1321]) (by decide +kernel))).trans (q_call3)
theorem e172_43 {i : Int32} {a : Nat} : mr172 S P 43 L (.int i :: .ref a :: st) sh M c s = (mv_kld sh M a i (mr172 S P) 44 L st c s) := propext (mv_R_iff (i := .iaload) (len := 1) (ax := []) (by decide +kernel))
theorem e172_44 : mr172 S P 44 L st sh M c s = (q_isI (q_gv L 1) ∧ mr172 S P 45 L (q_gv L 1 :: st) sh M c s) := (propext (mv_R_iff (i := .iload_n 1) (len := 1) (ax := []) (by decide +kernel))).trans (q_ldI_eq (K := fun st => mr172 S P 45 L st sh M c s))
theorem e172_45 {y : Int32} {x : Int32} : mr172 S P 45 L (.int y :: .int x :: st) sh M c s = (if x = y then mr172 S P 48 L st sh M c s else mr172 S P 54 L st sh M c s) := (propext (mv_R_iff (i := .if_icmp .ne 9) (len := 3) (ax := [54]) (by decide +kernel))).trans (q_br')
theorem e172_48 : mr172 S P 48 L st sh M c s = (mr172 S P 49 L (.int (nI 1) :: st) sh M c s) := propext (mv_R_iff (i := .iconst 1) (len := 1) (ax := []) (by decide +kernel))
theorem e172_49 : mr172 S P 49 L st sh M c s = (q_isI (q_gv L 3) ∧ mr172 S P 50 L (q_gv L 3 :: st) sh M c s) := (propext (mv_R_iff (i := .iload_n 3) (len := 1) (ax := []) (by decide +kernel))).trans (q_ldI_eq (K := fun st => mr172 S P 50 L st sh M c s))
theorem e172_50 {y : Int32} {x : Int32} : mr172 S P 50 L (.int y :: .int x :: st) sh M c s = (mr172 S P 51 L (.int (x <<< (y &&& 31)) :: st) sh M c s) := propext (mv_R_iff (i := .ishl) (len := 1) (ax := []) (by decide +kernel))
theorem e172_51 : mr172 S P 51 L st sh M c s = (mr172 S P 55 L st sh M c s) := propext (mv_R_iff (i := .goto 4) (len := 3) (ax := [55]) (by decide +kernel))
theorem e172_54 : mr172 S P 54 L st sh M c s = (mr172 S P 55 L (.int (nI 0) :: st) sh M c s) := propext (mv_R_iff (i := .iconst 0) (len := 1) (ax := []) (by decide +kernel))
theorem e172_55 {y : Int32} {x : Int32} : mr172 S P 55 L (.int y :: .int x :: st) sh M c s = (mr172 S P 56 L (.int (x ||| y) :: st) sh M c s) := propext (mv_R_iff (i := .ior) (len := 1) (ax := []) (by decide +kernel))
theorem e172_56 {x : Int32} : mr172 S P 56 L (.int x :: st) sh M c s = (q_hs L 2 ∧ mr172 S P 57 (L.set 2 (some (.int x))) st sh M c s) := (propext (mv_R_iff (i := .istore_n 2) (len := 1) (ax := []) (by decide +kernel))).trans (q_st_eq (K := fun L => mr172 S P 57 L st sh M c s))
theorem e172_57 : mr172 S P 57 L st sh M c s = (q_isI (q_gv L 2) ∧ mr172 S P 58 L (q_gv L 2 :: st) sh M c s) := (propext (mv_R_iff (i := .iload_n 2) (len := 1) (ax := []) (by decide +kernel))).trans (q_ldI_eq (K := fun st => mr172 S P 58 L st sh M c s))
theorem e172_58 : mr172 S P 58 L st sh M c s = (q_isA (q_gv L 0) ∧ mr172 S P 59 L (q_gv L 0 :: st) sh M c s) := (propext (mv_R_iff (i := .aload_n 0) (len := 1) (ax := []) (by decide +kernel))).trans (q_ldA_eq (K := fun st => mr172 S P 59 L st sh M c s))
theorem e172_59 {a : Nat} : mr172 S P 59 L (.ref a :: st) sh M c s = (mv_kgf sh M a 5 29 (mr172 S P) 62 L st c s) := propext (mv_R_iff (i := .getfield 55) (len := 3) (ax := [1054, 0, 5, 29]) (by decide +kernel))
theorem e172_62 : mr172 S P 62 L st sh M c s = (q_isA (q_gv L 0) ∧ mr172 S P 63 L (q_gv L 0 :: st) sh M c s) := (propext (mv_R_iff (i := .aload_n 0) (len := 1) (ax := []) (by decide +kernel))).trans (q_ldA_eq (K := fun st => mr172 S P 63 L st sh M c s))
theorem e172_63 {v1 : Value} : mr172 S P 63 L (v1 :: st) sh M c s = (mv_ss st ≤ 8 ∧ c ≤ 0 ∧ s ≤ 0 ∧ mv_isO sh (some v1) 5 ∧ mv_kal S 170 [v1] sh M (mr172 S P) 66 L st c s) := (propext (mv_R_iff (i := .invokevirtual 237) (len := 3) (ax := [0, 170, 1, 5, 0, 0, 0, 1307, 1309, 97, 119, 1310]) (by decide +kernel))).trans (q_call0)
theorem e172_66 : mr172 S P 66 L st sh M c s = (mr172 S P 67 L (.int (nI 3) :: st) sh M c s) := propext (mv_R_iff (i := .iconst 3) (len := 1) (ax := []) (by decide +kernel))
theorem e172_67 : mr172 S P 67 L st sh M c s = (mr172 S P 68 L (.int (nI 2) :: st) sh M c s) := propext (mv_R_iff (i := .iconst 2) (len := 1) (ax := []) (by decide +kernel))
theorem e172_68 : mr172 S P 68 L st sh M c s = (q_isI (q_gv L 3) ∧ mr172 S P 69 L (q_gv L 3 :: st) sh M c s) := (propext (mv_R_iff (i := .iload_n 3) (len := 1) (ax := []) (by decide +kernel))).trans (q_ldI_eq (K := fun st => mr172 S P 69 L st sh M c s))
theorem e172_69 {y : Int32} {x : Int32} : mr172 S P 69 L (.int y :: .int x :: st) sh M c s = (mr172 S P 70 L (.int (x * y) :: st) sh M c s) := propext (mv_R_iff (i := .imul) (len := 1) (ax := []) (by decide +kernel))
theorem e172_70 {y : Int32} {x : Int32} : mr172 S P 70 L (.int y :: .int x :: st) sh M c s = (mr172 S P 71 L (.int (x <<< (y &&& 31)) :: st) sh M c s) := propext (mv_R_iff (i := .ishl) (len := 1) (ax := []) (by decide +kernel))
theorem e172_71 {v2 : Value} {v1 : Value} : mr172 S P 71 L (v2 :: v1 :: st) sh M c s = (mv_ss st ≤ 8 ∧ c ≤ 0 ∧ s ≤ 0 ∧ True ∧ mv_kal S 171 [v1, v2] sh M (mr172 S P) 74 L st c s) := (propext (mv_R_iff (i := .invokestatic 230) (len := 3) (ax := [3, 171, 2, 0, 0, 0, 0, 1319, 1320, 119, 1321]) (by decide +kernel))).trans (q_call3)
theorem e172_74 {i : Int32} {a : Nat} : mr172 S P 74 L (.int i :: .ref a :: st) sh M c s = (mv_kld sh M a i (mr172 S P) 75 L st c s) := propext (mv_R_iff (i := .iaload) (len := 1) (ax := []) (by decide +kernel))
theorem e172_75 : mr172 S P 75 L st sh M c s = (q_isI (q_gv L 1) ∧ mr172 S P 76 L (q_gv L 1 :: st) sh M c s) := (propext (mv_R_iff (i := .iload_n 1) (len := 1) (ax := []) (by decide +kernel))).trans (q_ldI_eq (K := fun st => mr172 S P 76 L st sh M c s))
theorem e172_76 {y : Int32} {x : Int32} : mr172 S P 76 L (.int y :: .int x :: st) sh M c s = (if x = y then mr172 S P 79 L st sh M c s else mr172 S P 86 L st sh M c s) := (propext (mv_R_iff (i := .if_icmp .ne 10) (len := 3) (ax := [86]) (by decide +kernel))).trans (q_br')
theorem e172_79 : mr172 S P 79 L st sh M c s = (mr172 S P 81 L (.int (nI 64) :: st) sh M c s) := propext (mv_R_iff (i := .bipush 64) (len := 2) (ax := []) (by decide +kernel))
theorem e172_81 : mr172 S P 81 L st sh M c s = (q_isI (q_gv L 3) ∧ mr172 S P 82 L (q_gv L 3 :: st) sh M c s) := (propext (mv_R_iff (i := .iload_n 3) (len := 1) (ax := []) (by decide +kernel))).trans (q_ldI_eq (K := fun st => mr172 S P 82 L st sh M c s))
theorem e172_82 {y : Int32} {x : Int32} : mr172 S P 82 L (.int y :: .int x :: st) sh M c s = (mr172 S P 83 L (.int (x <<< (y &&& 31)) :: st) sh M c s) := propext (mv_R_iff (i := .ishl) (len := 1) (ax := []) (by decide +kernel))
theorem e172_83 : mr172 S P 83 L st sh M c s = (mr172 S P 87 L st sh M c s) := propext (mv_R_iff (i := .goto 4) (len := 3) (ax := [87]) (by decide +kernel))
theorem e172_86 : mr172 S P 86 L st sh M c s = (mr172 S P 87 L (.int (nI 0) :: st) sh M c s) := propext (mv_R_iff (i := .iconst 0) (len := 1) (ax := []) (by decide +kernel))
theorem e172_87 {y : Int32} {x : Int32} : mr172 S P 87 L (.int y :: .int x :: st) sh M c s = (mr172 S P 88 L (.int (x ||| y) :: st) sh M c s) := propext (mv_R_iff (i := .ior) (len := 1) (ax := []) (by decide +kernel))
theorem e172_88 {x : Int32} : mr172 S P 88 L (.int x :: st) sh M c s = (q_hs L 2 ∧ mr172 S P 89 (L.set 2 (some (.int x))) st sh M c s) := (propext (mv_R_iff (i := .istore_n 2) (len := 1) (ax := []) (by decide +kernel))).trans (q_st_eq (K := fun L => mr172 S P 89 L st sh M c s))
theorem e172_89 : mr172 S P 89 L st sh M c s = ((q_isI (q_gv L 3) ∧ q_hs L 3) ∧ mr172 S P 92 (L.set 3 (some (q_inc (q_gv L 3) (nI 1)))) st sh M c s) := (propext (mv_R_iff (i := .iinc 3 1) (len := 3) (ax := []) (by decide +kernel))).trans (q_inc_eq (K := fun L => mr172 S P 92 L st sh M c s))
theorem e172_92 : mr172 S P 92 L st sh M c s = (mr172 S P 18 L st sh M c s) := propext (mv_R_iff (i := .goto (-74)) (len := 3) (ax := [18]) (by decide +kernel))
theorem e172_95 : mr172 S P 95 L st sh M c s = (q_isI (q_gv L 2) ∧ mr172 S P 96 L (q_gv L 2 :: st) sh M c s) := (propext (mv_R_iff (i := .iload_n 2) (len := 1) (ax := []) (by decide +kernel))).trans (q_ldI_eq (K := fun st => mr172 S P 96 L st sh M c s))
theorem e172_96 {x : Int32} : mr172 S P 96 L [.int x] sh M c s = (mv_nr 0 x ∧ P (some (.int x)) sh M) := propext (mv_R_iff (i := .ireturn) (len := 1) (ax := [0]) (by decide +kernel))
-- 173: TurnedTabletsModel.back()I
def mk173 : mv_Cd := [
  (0, .aload_n 0, 1, []),
  (1, .getfield 166, 3, [1027, 0, 5, 2]),
  (4, .ifCond .ne 6, 3, [10]),
  (7, .bipush (-2), 2, []),
  (9, .ireturn, 1, [0]),
  (10, .aload_n 0, 1, []),
  (11, .dup, 1, []),
  (12, .getfield 166, 3, [1027, 0, 5, 2]),
  (15, .iconst 1, 1, []),
  (16, .isub, 1, []),
  (17, .putfield 166, 3, [1027, 0, 5, 2, 0]),
  (20, .aload_n 0, 1, []),
  (21, .sipush 7191, 3, []),
  (24, .sipush 799, 3, []),
  (27, .aload_n 0, 1, []),
  (28, .getfield 166, 3, [1027, 0, 5, 2]),
  (31, .imul, 1, []),
  (32, .iadd, 1, []),
  (33, .iconst 0, 1, []),
  (34, .invokevirtual 205, 3, [0, 156, 3, 5, 0, 0, 0, 1215, 1217, 85, 119, 1218]),
  (37, .aload_n 0, 1, []),
  (38, .iconst 0, 1, []),
  (39, .putfield 163, 3, [1026, 0, 5, 1, 0]),
  (42, .aload_n 0, 1, []),
  (43, .getfield 166, 3, [1027, 0, 5, 2]),
  (46, .ireturn, 1, [0])]
def mr173 (S : Nat → mv_Sp) (P : mv_Post) : mv_Kt := mv_R mv_DF mk173 S (0, 0) P
theorem e173_0 : mr173 S P 0 L st sh M c s = (q_isA (q_gv L 0) ∧ mr173 S P 1 L (q_gv L 0 :: st) sh M c s) := (propext (mv_R_iff (i := .aload_n 0) (len := 1) (ax := []) (by decide +kernel))).trans (q_ldA_eq (K := fun st => mr173 S P 1 L st sh M c s))
theorem e173_1 {a : Nat} : mr173 S P 1 L (.ref a :: st) sh M c s = (mv_kgf sh M a 5 2 (mr173 S P) 4 L st c s) := propext (mv_R_iff (i := .getfield 166) (len := 3) (ax := [1027, 0, 5, 2]) (by decide +kernel))
theorem e173_4 {x : Int32} : mr173 S P 4 L (.int x :: st) sh M c s = (if x = nI 0 then mr173 S P 7 L st sh M c s else mr173 S P 10 L st sh M c s) := (propext (mv_R_iff (i := .ifCond .ne 6) (len := 3) (ax := [10]) (by decide +kernel))).trans (q_br')
theorem e173_7 : mr173 S P 7 L st sh M c s = (mr173 S P 9 L (.int (Int32.ofInt (-2)) :: st) sh M c s) := (propext (mv_R_iff (i := .bipush (-2)) (len := 2) (ax := []) (by decide +kernel))).trans (congrArg (fun z => mr173 S P 9 L (.int z :: st) sh M c s) (by decide : (Int8.ofInt (-2)).toInt32 = Int32.ofInt (-2)))
theorem e173_9 {x : Int32} : mr173 S P 9 L [.int x] sh M c s = (mv_nr 0 x ∧ P (some (.int x)) sh M) := propext (mv_R_iff (i := .ireturn) (len := 1) (ax := [0]) (by decide +kernel))
theorem e173_10 : mr173 S P 10 L st sh M c s = (q_isA (q_gv L 0) ∧ mr173 S P 11 L (q_gv L 0 :: st) sh M c s) := (propext (mv_R_iff (i := .aload_n 0) (len := 1) (ax := []) (by decide +kernel))).trans (q_ldA_eq (K := fun st => mr173 S P 11 L st sh M c s))
theorem e173_11 {x : Int32} : mr173 S P 11 L (.int x :: st) sh M c s = (mr173 S P 12 L (.int x :: .int x :: st) sh M c s) := propext (mv_R_iff (i := .dup) (len := 1) (ax := []) (by decide +kernel))
theorem e173_11r {x : Nat} : mr173 S P 11 L (.ref x :: st) sh M c s = (mr173 S P 12 L (.ref x :: .ref x :: st) sh M c s) := propext (mv_R_iff (i := .dup) (len := 1) (ax := []) (by decide +kernel))
theorem e173_12 {a : Nat} : mr173 S P 12 L (.ref a :: st) sh M c s = (mv_kgf sh M a 5 2 (mr173 S P) 15 L st c s) := propext (mv_R_iff (i := .getfield 166) (len := 3) (ax := [1027, 0, 5, 2]) (by decide +kernel))
theorem e173_15 : mr173 S P 15 L st sh M c s = (mr173 S P 16 L (.int (nI 1) :: st) sh M c s) := propext (mv_R_iff (i := .iconst 1) (len := 1) (ax := []) (by decide +kernel))
theorem e173_16 {y : Int32} {x : Int32} : mr173 S P 16 L (.int y :: .int x :: st) sh M c s = (mr173 S P 17 L (.int (x - y) :: st) sh M c s) := propext (mv_R_iff (i := .isub) (len := 1) (ax := []) (by decide +kernel))
theorem e173_17 {x : Int32} {a : Nat} : mr173 S P 17 L (.int x :: .ref a :: st) sh M c s = (True ∧ mv_kpf sh M a 5 2 x (mr173 S P) 20 L st c s) := propext (mv_R_iff (i := .putfield 166) (len := 3) (ax := [1027, 0, 5, 2, 0]) (by decide +kernel))
theorem e173_20 : mr173 S P 20 L st sh M c s = (q_isA (q_gv L 0) ∧ mr173 S P 21 L (q_gv L 0 :: st) sh M c s) := (propext (mv_R_iff (i := .aload_n 0) (len := 1) (ax := []) (by decide +kernel))).trans (q_ldA_eq (K := fun st => mr173 S P 21 L st sh M c s))
theorem e173_21 : mr173 S P 21 L st sh M c s = (mr173 S P 24 L (.int (nI 7191) :: st) sh M c s) := propext (mv_R_iff (i := .sipush 7191) (len := 3) (ax := []) (by decide +kernel))
theorem e173_24 : mr173 S P 24 L st sh M c s = (mr173 S P 27 L (.int (nI 799) :: st) sh M c s) := propext (mv_R_iff (i := .sipush 799) (len := 3) (ax := []) (by decide +kernel))
theorem e173_27 : mr173 S P 27 L st sh M c s = (q_isA (q_gv L 0) ∧ mr173 S P 28 L (q_gv L 0 :: st) sh M c s) := (propext (mv_R_iff (i := .aload_n 0) (len := 1) (ax := []) (by decide +kernel))).trans (q_ldA_eq (K := fun st => mr173 S P 28 L st sh M c s))
theorem e173_28 {a : Nat} : mr173 S P 28 L (.ref a :: st) sh M c s = (mv_kgf sh M a 5 2 (mr173 S P) 31 L st c s) := propext (mv_R_iff (i := .getfield 166) (len := 3) (ax := [1027, 0, 5, 2]) (by decide +kernel))
theorem e173_31 {y : Int32} {x : Int32} : mr173 S P 31 L (.int y :: .int x :: st) sh M c s = (mr173 S P 32 L (.int (x * y) :: st) sh M c s) := propext (mv_R_iff (i := .imul) (len := 1) (ax := []) (by decide +kernel))
theorem e173_32 {y : Int32} {x : Int32} : mr173 S P 32 L (.int y :: .int x :: st) sh M c s = (mr173 S P 33 L (.int (x + y) :: st) sh M c s) := propext (mv_R_iff (i := .iadd) (len := 1) (ax := []) (by decide +kernel))
theorem e173_33 : mr173 S P 33 L st sh M c s = (mr173 S P 34 L (.int (nI 0) :: st) sh M c s) := propext (mv_R_iff (i := .iconst 0) (len := 1) (ax := []) (by decide +kernel))
theorem e173_34 {v3 : Value} {v2 : Value} {v1 : Value} : mr173 S P 34 L (v3 :: v2 :: v1 :: st) sh M c s = (mv_ss st ≤ 8 ∧ c ≤ 0 ∧ s ≤ 0 ∧ mv_isO sh (some v1) 5 ∧ mv_kal S 156 [v1, v2, v3] sh M (mr173 S P) 37 L st c s) := (propext (mv_R_iff (i := .invokevirtual 205) (len := 3) (ax := [0, 156, 3, 5, 0, 0, 0, 1215, 1217, 85, 119, 1218]) (by decide +kernel))).trans (q_call0)
theorem e173_37 : mr173 S P 37 L st sh M c s = (q_isA (q_gv L 0) ∧ mr173 S P 38 L (q_gv L 0 :: st) sh M c s) := (propext (mv_R_iff (i := .aload_n 0) (len := 1) (ax := []) (by decide +kernel))).trans (q_ldA_eq (K := fun st => mr173 S P 38 L st sh M c s))
theorem e173_38 : mr173 S P 38 L st sh M c s = (mr173 S P 39 L (.int (nI 0) :: st) sh M c s) := propext (mv_R_iff (i := .iconst 0) (len := 1) (ax := []) (by decide +kernel))
theorem e173_39 {x : Int32} {a : Nat} : mr173 S P 39 L (.int x :: .ref a :: st) sh M c s = (True ∧ mv_kpf sh M a 5 1 x (mr173 S P) 42 L st c s) := propext (mv_R_iff (i := .putfield 163) (len := 3) (ax := [1026, 0, 5, 1, 0]) (by decide +kernel))
theorem e173_42 : mr173 S P 42 L st sh M c s = (q_isA (q_gv L 0) ∧ mr173 S P 43 L (q_gv L 0 :: st) sh M c s) := (propext (mv_R_iff (i := .aload_n 0) (len := 1) (ax := []) (by decide +kernel))).trans (q_ldA_eq (K := fun st => mr173 S P 43 L st sh M c s))
theorem e173_43 {a : Nat} : mr173 S P 43 L (.ref a :: st) sh M c s = (mv_kgf sh M a 5 2 (mr173 S P) 46 L st c s) := propext (mv_R_iff (i := .getfield 166) (len := 3) (ax := [1027, 0, 5, 2]) (by decide +kernel))
theorem e173_46 {x : Int32} : mr173 S P 46 L [.int x] sh M c s = (mv_nr 0 x ∧ P (some (.int x)) sh M) := propext (mv_R_iff (i := .ireturn) (len := 1) (ax := [0]) (by decide +kernel))
-- 174: TurnedTabletsModel.bands(III)I
def mk174 : mv_Cd := [
  (0, .iload_n 1, 1, []),
  (1, .i2l, 1, []),
  (2, .lconst 0, 1, []),
  (3, .ldc2_w 266, 3, [1370, 9999]),
  (6, .invokestatic 92, 3, [3, 144, 3, 0, 0, 0, 0, 1007, 1008, 119, 1009]),
  (9, .ifCond .eq 25, 3, [34]),
  (12, .iload_n 2, 1, []),
  (13, .i2l, 1, []),
  (14, .lconst 1, 1, []),
  (15, .ldc2_w 268, 3, [1371, 60]),
  (18, .invokestatic 92, 3, [3, 144, 3, 0, 0, 0, 0, 1007, 1008, 119, 1009]),
  (21, .ifCond .eq 13, 3, [34]),
  (24, .iload_n 3, 1, []),
  (25, .i2l, 1, []),
  (26, .lconst 0, 1, []),
  (27, .lconst 1, 1, []),
  (28, .invokestatic 92, 3, [3, 144, 3, 0, 0, 0, 0, 1007, 1008, 119, 1009]),
  (31, .ifCond .ne 5, 3, [36]),
  (34, .iconst (-1), 1, []),
  (35, .ireturn, 1, [0]),
  (36, .aload_n 0, 1, []),
  (37, .iconst 0, 1, []),
  (38, .sipush 8789, 3, []),
  (41, .invokevirtual 205, 3, [0, 156, 3, 5, 0, 0, 0, 1215, 1217, 85, 119, 1218]),
  (44, .iconst 0, 1, []),
  (45, .istore 4, 2, []),
  (47, .iconst 0, 1, []),
  (48, .istore 5, 2, []),
  (50, .iconst 0, 1, []),
  (51, .istore 6, 2, []),
  (53, .iload 6, 2, []),
  (55, .iload_n 2, 1, []),
  (56, .if_icmp .ge 140, 3, [196]),
  (59, .ldc2_w 270, 3, [1372, 7919]),
  (62, .iload_n 1, 1, []),
  (63, .i2l, 1, []),
  (64, .lmul, 1, []),
  (65, .ldc2_w 272, 3, [1373, 6151]),
  (68, .iload 6, 2, []),
  (70, .i2l, 1, []),
  (71, .lmul, 1, []),
  (72, .ladd, 1, []),
  (73, .lconst 1, 1, []),
  (74, .ladd, 1, []),
  (75, .lstore 7, 2, []),
  (77, .lload 7, 2, []),
  (79, .lload 7, 2, []),
  (81, .lmul, 1, []),
  (82, .ldc2_w 274, 3, [1374, 65521]),
  (85, .lrem, 1, []),
  (86, .l2i, 1, []),
  (87, .istore 9, 2, []),
  (89, .iload 9, 2, []),
  (91, .bipush 8, 2, []),
  (93, .idiv, 1, []),
  (94, .istore 10, 2, []),
  (96, .iload 9, 2, []),
  (98, .bipush 8, 2, []),
  (100, .irem, 1, []),
  (101, .bipush 7, 2, []),
  (103, .if_icmp .ne 15, 3, [118]),
  (106, .aload_n 0, 1, []),
  (107, .getfield 7, 3, [1025, 0, 5, 0]),
  (110, .sipush 8819, 3, []),
  (113, .iconst 0, 1, []),
  (114, .iastore, 1, []),
  (115, .goto 75, 3, [190]),
  (118, .iload 9, 2, []),
  (120, .bipush 8, 2, []),
  (122, .irem, 1, []),
  (123, .bipush 6, 2, []),
  (125, .if_icmp .ne 23, 3, [148]),
  (128, .aload_n 0, 1, []),
  (129, .getfield 7, 3, [1025, 0, 5, 0]),
  (132, .sipush 8801, 3, []),
  (135, .iload 10, 2, []),
  (137, .aload_n 0, 1, []),
  (138, .getfield 151, 3, [1028, 0, 5, 3]),
  (141, .irem, 1, []),
  (142, .iadd, 1, []),
  (143, .iconst 0, 1, []),
  (144, .iastore, 1, []),
  (145, .goto 45, 3, [190]),
  (148, .aload_n 0, 1, []),
  (149, .getfield 7, 3, [1025, 0, 5, 0]),
  (152, .sipush 8819, 3, []),
  (155, .iaload, 1, []),
  (156, .bipush 24, 2, []),
  (158, .if_icmp .ge 32, 3, [190]),
  (161, .iload 5, 2, []),
  (163, .aload_n 0, 1, []),
  (164, .sipush 8789, 3, []),
  (167, .iload 10, 2, []),
  (169, .aload_n 0, 1, []),
  (170, .getfield 154, 3, [1032, 0, 5, 7]),
  (173, .irem, 1, []),
  (174, .iload 9, 2, []),
  (176, .bipush 64, 2, []),
  (178, .idiv, 1, []),
  (179, .iconst 2, 1, []),
  (180, .irem, 1, []),
  (181, .invokevirtual 215, 3, [0, 165, 4, 5, 0, 0, 0, 1219, 1221, 86, 119, 1222]),
  (184, .iadd, 1, []),
  (185, .istore 5, 2, []),
  (187, .iinc 4 1, 3, []),
  (190, .iinc 6 1, 3, []),
  (193, .goto (-140), 3, [53]),
  (196, .iload_n 3, 1, []),
  (197, .ifCond .ne 8, 3, [205]),
  (200, .iload 4, 2, []),
  (202, .goto 5, 3, [207]),
  (205, .iload 5, 2, []),
  (207, .ireturn, 1, [0])]
def mr174 (S : Nat → mv_Sp) (P : mv_Post) : mv_Kt := mv_R mv_DF mk174 S (0, 0) P
theorem e174_0 : mr174 S P 0 L st sh M c s = (q_isI (q_gv L 1) ∧ mr174 S P 1 L (q_gv L 1 :: st) sh M c s) := (propext (mv_R_iff (i := .iload_n 1) (len := 1) (ax := []) (by decide +kernel))).trans (q_ldI_eq (K := fun st => mr174 S P 1 L st sh M c s))
theorem e174_1 {x : Int32} : mr174 S P 1 L (.int x :: st) sh M c s = (mr174 S P 2 L (.long x.toInt64 :: st) sh M c s) := propext (mv_R_iff (i := .i2l) (len := 1) (ax := []) (by decide +kernel))
theorem e174_2 : mr174 S P 2 L st sh M c s = (mr174 S P 3 L (.long (lN 0) :: st) sh M c s) := propext (mv_R_iff (i := .lconst 0) (len := 1) (ax := []) (by decide +kernel))
theorem e174_3 : mr174 S P 3 L st sh M c s = (mr174 S P 6 L (.long (lN 9999) :: st) sh M c s) := propext (mv_R_iff (i := .ldc2_w 266) (len := 3) (ax := [1370, 9999]) (by decide +kernel))
theorem e174_6 {v3 : Value} {v2 : Value} {v1 : Value} : mr174 S P 6 L (v3 :: v2 :: v1 :: st) sh M c s = (mv_ss st ≤ 8 ∧ c ≤ 0 ∧ s ≤ 0 ∧ True ∧ mv_kal S 144 [v1, v2, v3] sh M (mr174 S P) 9 L st c s) := (propext (mv_R_iff (i := .invokestatic 92) (len := 3) (ax := [3, 144, 3, 0, 0, 0, 0, 1007, 1008, 119, 1009]) (by decide +kernel))).trans (q_call3)
theorem e174_9 {x : Int32} : mr174 S P 9 L (.int x :: st) sh M c s = (if x = nI 0 then mr174 S P 34 L st sh M c s else mr174 S P 12 L st sh M c s) := (propext (mv_R_iff (i := .ifCond .eq 25) (len := 3) (ax := [34]) (by decide +kernel))).trans (q_br)
theorem e174_12 : mr174 S P 12 L st sh M c s = (q_isI (q_gv L 2) ∧ mr174 S P 13 L (q_gv L 2 :: st) sh M c s) := (propext (mv_R_iff (i := .iload_n 2) (len := 1) (ax := []) (by decide +kernel))).trans (q_ldI_eq (K := fun st => mr174 S P 13 L st sh M c s))
theorem e174_13 {x : Int32} : mr174 S P 13 L (.int x :: st) sh M c s = (mr174 S P 14 L (.long x.toInt64 :: st) sh M c s) := propext (mv_R_iff (i := .i2l) (len := 1) (ax := []) (by decide +kernel))
theorem e174_14 : mr174 S P 14 L st sh M c s = (mr174 S P 15 L (.long (lN 1) :: st) sh M c s) := propext (mv_R_iff (i := .lconst 1) (len := 1) (ax := []) (by decide +kernel))
theorem e174_15 : mr174 S P 15 L st sh M c s = (mr174 S P 18 L (.long (lN 60) :: st) sh M c s) := propext (mv_R_iff (i := .ldc2_w 268) (len := 3) (ax := [1371, 60]) (by decide +kernel))
theorem e174_18 {v3 : Value} {v2 : Value} {v1 : Value} : mr174 S P 18 L (v3 :: v2 :: v1 :: st) sh M c s = (mv_ss st ≤ 8 ∧ c ≤ 0 ∧ s ≤ 0 ∧ True ∧ mv_kal S 144 [v1, v2, v3] sh M (mr174 S P) 21 L st c s) := (propext (mv_R_iff (i := .invokestatic 92) (len := 3) (ax := [3, 144, 3, 0, 0, 0, 0, 1007, 1008, 119, 1009]) (by decide +kernel))).trans (q_call3)
theorem e174_21 {x : Int32} : mr174 S P 21 L (.int x :: st) sh M c s = (if x = nI 0 then mr174 S P 34 L st sh M c s else mr174 S P 24 L st sh M c s) := (propext (mv_R_iff (i := .ifCond .eq 13) (len := 3) (ax := [34]) (by decide +kernel))).trans (q_br)
theorem e174_24 : mr174 S P 24 L st sh M c s = (q_isI (q_gv L 3) ∧ mr174 S P 25 L (q_gv L 3 :: st) sh M c s) := (propext (mv_R_iff (i := .iload_n 3) (len := 1) (ax := []) (by decide +kernel))).trans (q_ldI_eq (K := fun st => mr174 S P 25 L st sh M c s))
theorem e174_25 {x : Int32} : mr174 S P 25 L (.int x :: st) sh M c s = (mr174 S P 26 L (.long x.toInt64 :: st) sh M c s) := propext (mv_R_iff (i := .i2l) (len := 1) (ax := []) (by decide +kernel))
theorem e174_26 : mr174 S P 26 L st sh M c s = (mr174 S P 27 L (.long (lN 0) :: st) sh M c s) := propext (mv_R_iff (i := .lconst 0) (len := 1) (ax := []) (by decide +kernel))
theorem e174_27 : mr174 S P 27 L st sh M c s = (mr174 S P 28 L (.long (lN 1) :: st) sh M c s) := propext (mv_R_iff (i := .lconst 1) (len := 1) (ax := []) (by decide +kernel))
theorem e174_28 {v3 : Value} {v2 : Value} {v1 : Value} : mr174 S P 28 L (v3 :: v2 :: v1 :: st) sh M c s = (mv_ss st ≤ 8 ∧ c ≤ 0 ∧ s ≤ 0 ∧ True ∧ mv_kal S 144 [v1, v2, v3] sh M (mr174 S P) 31 L st c s) := (propext (mv_R_iff (i := .invokestatic 92) (len := 3) (ax := [3, 144, 3, 0, 0, 0, 0, 1007, 1008, 119, 1009]) (by decide +kernel))).trans (q_call3)
theorem e174_31 {x : Int32} : mr174 S P 31 L (.int x :: st) sh M c s = (if x = nI 0 then mr174 S P 34 L st sh M c s else mr174 S P 36 L st sh M c s) := (propext (mv_R_iff (i := .ifCond .ne 5) (len := 3) (ax := [36]) (by decide +kernel))).trans (q_br')
theorem e174_34 : mr174 S P 34 L st sh M c s = (mr174 S P 35 L (.int (Int32.ofInt (-1)) :: st) sh M c s) := propext (mv_R_iff (i := .iconst (-1)) (len := 1) (ax := []) (by decide +kernel))
theorem e174_35 {x : Int32} : mr174 S P 35 L [.int x] sh M c s = (mv_nr 0 x ∧ P (some (.int x)) sh M) := propext (mv_R_iff (i := .ireturn) (len := 1) (ax := [0]) (by decide +kernel))
theorem e174_36 : mr174 S P 36 L st sh M c s = (q_isA (q_gv L 0) ∧ mr174 S P 37 L (q_gv L 0 :: st) sh M c s) := (propext (mv_R_iff (i := .aload_n 0) (len := 1) (ax := []) (by decide +kernel))).trans (q_ldA_eq (K := fun st => mr174 S P 37 L st sh M c s))
theorem e174_37 : mr174 S P 37 L st sh M c s = (mr174 S P 38 L (.int (nI 0) :: st) sh M c s) := propext (mv_R_iff (i := .iconst 0) (len := 1) (ax := []) (by decide +kernel))
theorem e174_38 : mr174 S P 38 L st sh M c s = (mr174 S P 41 L (.int (nI 8789) :: st) sh M c s) := propext (mv_R_iff (i := .sipush 8789) (len := 3) (ax := []) (by decide +kernel))
theorem e174_41 {v3 : Value} {v2 : Value} {v1 : Value} : mr174 S P 41 L (v3 :: v2 :: v1 :: st) sh M c s = (mv_ss st ≤ 8 ∧ c ≤ 0 ∧ s ≤ 0 ∧ mv_isO sh (some v1) 5 ∧ mv_kal S 156 [v1, v2, v3] sh M (mr174 S P) 44 L st c s) := (propext (mv_R_iff (i := .invokevirtual 205) (len := 3) (ax := [0, 156, 3, 5, 0, 0, 0, 1215, 1217, 85, 119, 1218]) (by decide +kernel))).trans (q_call0)
theorem e174_44 : mr174 S P 44 L st sh M c s = (mr174 S P 45 L (.int (nI 0) :: st) sh M c s) := propext (mv_R_iff (i := .iconst 0) (len := 1) (ax := []) (by decide +kernel))
theorem e174_45 {x : Int32} : mr174 S P 45 L (.int x :: st) sh M c s = (q_hs L 4 ∧ mr174 S P 47 (L.set 4 (some (.int x))) st sh M c s) := (propext (mv_R_iff (i := .istore 4) (len := 2) (ax := []) (by decide +kernel))).trans (q_st_eq (K := fun L => mr174 S P 47 L st sh M c s))
theorem e174_47 : mr174 S P 47 L st sh M c s = (mr174 S P 48 L (.int (nI 0) :: st) sh M c s) := propext (mv_R_iff (i := .iconst 0) (len := 1) (ax := []) (by decide +kernel))
theorem e174_48 {x : Int32} : mr174 S P 48 L (.int x :: st) sh M c s = (q_hs L 5 ∧ mr174 S P 50 (L.set 5 (some (.int x))) st sh M c s) := (propext (mv_R_iff (i := .istore 5) (len := 2) (ax := []) (by decide +kernel))).trans (q_st_eq (K := fun L => mr174 S P 50 L st sh M c s))
theorem e174_50 : mr174 S P 50 L st sh M c s = (mr174 S P 51 L (.int (nI 0) :: st) sh M c s) := propext (mv_R_iff (i := .iconst 0) (len := 1) (ax := []) (by decide +kernel))
theorem e174_51 {x : Int32} : mr174 S P 51 L (.int x :: st) sh M c s = (q_hs L 6 ∧ mr174 S P 53 (L.set 6 (some (.int x))) st sh M c s) := (propext (mv_R_iff (i := .istore 6) (len := 2) (ax := []) (by decide +kernel))).trans (q_st_eq (K := fun L => mr174 S P 53 L st sh M c s))
theorem e174_53 : mr174 S P 53 L st sh M c s = (q_isI (q_gv L 6) ∧ mr174 S P 55 L (q_gv L 6 :: st) sh M c s) := (propext (mv_R_iff (i := .iload 6) (len := 2) (ax := []) (by decide +kernel))).trans (q_ldI_eq (K := fun st => mr174 S P 55 L st sh M c s))
theorem e174_55 : mr174 S P 55 L st sh M c s = (q_isI (q_gv L 2) ∧ mr174 S P 56 L (q_gv L 2 :: st) sh M c s) := (propext (mv_R_iff (i := .iload_n 2) (len := 1) (ax := []) (by decide +kernel))).trans (q_ldI_eq (K := fun st => mr174 S P 56 L st sh M c s))
theorem e174_56 {y : Int32} {x : Int32} : mr174 S P 56 L (.int y :: .int x :: st) sh M c s = (if y ≤ x then mr174 S P 196 L st sh M c s else mr174 S P 59 L st sh M c s) := (propext (mv_R_iff (i := .if_icmp .ge 140) (len := 3) (ax := [196]) (by decide +kernel))).trans (q_br)
theorem e174_59 : mr174 S P 59 L st sh M c s = (mr174 S P 62 L (.long (lN 7919) :: st) sh M c s) := propext (mv_R_iff (i := .ldc2_w 270) (len := 3) (ax := [1372, 7919]) (by decide +kernel))
theorem e174_62 : mr174 S P 62 L st sh M c s = (q_isI (q_gv L 1) ∧ mr174 S P 63 L (q_gv L 1 :: st) sh M c s) := (propext (mv_R_iff (i := .iload_n 1) (len := 1) (ax := []) (by decide +kernel))).trans (q_ldI_eq (K := fun st => mr174 S P 63 L st sh M c s))
theorem e174_63 {x : Int32} : mr174 S P 63 L (.int x :: st) sh M c s = (mr174 S P 64 L (.long x.toInt64 :: st) sh M c s) := propext (mv_R_iff (i := .i2l) (len := 1) (ax := []) (by decide +kernel))
theorem e174_64 {y : Int64} {x : Int64} : mr174 S P 64 L (.long y :: .long x :: st) sh M c s = (mr174 S P 65 L (.long (x * y) :: st) sh M c s) := propext (mv_R_iff (i := .lmul) (len := 1) (ax := []) (by decide +kernel))
theorem e174_65 : mr174 S P 65 L st sh M c s = (mr174 S P 68 L (.long (lN 6151) :: st) sh M c s) := propext (mv_R_iff (i := .ldc2_w 272) (len := 3) (ax := [1373, 6151]) (by decide +kernel))
theorem e174_68 : mr174 S P 68 L st sh M c s = (q_isI (q_gv L 6) ∧ mr174 S P 70 L (q_gv L 6 :: st) sh M c s) := (propext (mv_R_iff (i := .iload 6) (len := 2) (ax := []) (by decide +kernel))).trans (q_ldI_eq (K := fun st => mr174 S P 70 L st sh M c s))
theorem e174_70 {x : Int32} : mr174 S P 70 L (.int x :: st) sh M c s = (mr174 S P 71 L (.long x.toInt64 :: st) sh M c s) := propext (mv_R_iff (i := .i2l) (len := 1) (ax := []) (by decide +kernel))
theorem e174_71 {y : Int64} {x : Int64} : mr174 S P 71 L (.long y :: .long x :: st) sh M c s = (mr174 S P 72 L (.long (x * y) :: st) sh M c s) := propext (mv_R_iff (i := .lmul) (len := 1) (ax := []) (by decide +kernel))
theorem e174_72 {y : Int64} {x : Int64} : mr174 S P 72 L (.long y :: .long x :: st) sh M c s = (mr174 S P 73 L (.long (x + y) :: st) sh M c s) := propext (mv_R_iff (i := .ladd) (len := 1) (ax := []) (by decide +kernel))
theorem e174_73 : mr174 S P 73 L st sh M c s = (mr174 S P 74 L (.long (lN 1) :: st) sh M c s) := propext (mv_R_iff (i := .lconst 1) (len := 1) (ax := []) (by decide +kernel))
theorem e174_74 {y : Int64} {x : Int64} : mr174 S P 74 L (.long y :: .long x :: st) sh M c s = (mr174 S P 75 L (.long (x + y) :: st) sh M c s) := propext (mv_R_iff (i := .ladd) (len := 1) (ax := []) (by decide +kernel))
theorem e174_75 {x : Int64} : mr174 S P 75 L (.long x :: st) sh M c s = (q_hm L 7 ∧ mr174 S P 77 ((L.set 7 (some (.long x))).set 8 none) st sh M c s) := (propext (mv_R_iff (i := .lstore 7) (len := 2) (ax := []) (by decide +kernel))).trans (q_stl_eq (K := fun L => mr174 S P 77 L st sh M c s))
theorem e174_77 : mr174 S P 77 L st sh M c s = (q_isL (q_gv L 7) ∧ mr174 S P 79 L (q_gv L 7 :: st) sh M c s) := (propext (mv_R_iff (i := .lload 7) (len := 2) (ax := []) (by decide +kernel))).trans (q_ldL_eq (K := fun st => mr174 S P 79 L st sh M c s))
theorem e174_79 : mr174 S P 79 L st sh M c s = (q_isL (q_gv L 7) ∧ mr174 S P 81 L (q_gv L 7 :: st) sh M c s) := (propext (mv_R_iff (i := .lload 7) (len := 2) (ax := []) (by decide +kernel))).trans (q_ldL_eq (K := fun st => mr174 S P 81 L st sh M c s))
theorem e174_81 {y : Int64} {x : Int64} : mr174 S P 81 L (.long y :: .long x :: st) sh M c s = (mr174 S P 82 L (.long (x * y) :: st) sh M c s) := propext (mv_R_iff (i := .lmul) (len := 1) (ax := []) (by decide +kernel))
theorem e174_82 : mr174 S P 82 L st sh M c s = (mr174 S P 85 L (.long (lN 65521) :: st) sh M c s) := propext (mv_R_iff (i := .ldc2_w 274) (len := 3) (ax := [1374, 65521]) (by decide +kernel))
theorem e174_85 {y : Int64} {x : Int64} : mr174 S P 85 L (.long y :: .long x :: st) sh M c s = (¬ y = lN 0 ∧ mr174 S P 86 L (.long (q_rl x y) :: st) sh M c s) := propext (mv_R_iff (i := .lrem) (len := 1) (ax := []) (by decide +kernel))
theorem e174_86 {x : Int64} : mr174 S P 86 L (.long x :: st) sh M c s = (mr174 S P 87 L (.int x.toInt32 :: st) sh M c s) := propext (mv_R_iff (i := .l2i) (len := 1) (ax := []) (by decide +kernel))
theorem e174_87 {x : Int32} : mr174 S P 87 L (.int x :: st) sh M c s = (q_hs L 9 ∧ mr174 S P 89 (L.set 9 (some (.int x))) st sh M c s) := (propext (mv_R_iff (i := .istore 9) (len := 2) (ax := []) (by decide +kernel))).trans (q_st_eq (K := fun L => mr174 S P 89 L st sh M c s))
theorem e174_89 : mr174 S P 89 L st sh M c s = (q_isI (q_gv L 9) ∧ mr174 S P 91 L (q_gv L 9 :: st) sh M c s) := (propext (mv_R_iff (i := .iload 9) (len := 2) (ax := []) (by decide +kernel))).trans (q_ldI_eq (K := fun st => mr174 S P 91 L st sh M c s))
theorem e174_91 : mr174 S P 91 L st sh M c s = (mr174 S P 93 L (.int (nI 8) :: st) sh M c s) := propext (mv_R_iff (i := .bipush 8) (len := 2) (ax := []) (by decide +kernel))
theorem e174_93 {y : Int32} {x : Int32} : mr174 S P 93 L (.int y :: .int x :: st) sh M c s = (¬ y = nI 0 ∧ mr174 S P 94 L (.int (x / y) :: st) sh M c s) := propext (mv_R_iff (i := .idiv) (len := 1) (ax := []) (by decide +kernel))
theorem e174_94 {x : Int32} : mr174 S P 94 L (.int x :: st) sh M c s = (q_hs L 10 ∧ mr174 S P 96 (L.set 10 (some (.int x))) st sh M c s) := (propext (mv_R_iff (i := .istore 10) (len := 2) (ax := []) (by decide +kernel))).trans (q_st_eq (K := fun L => mr174 S P 96 L st sh M c s))
theorem e174_96 : mr174 S P 96 L st sh M c s = (q_isI (q_gv L 9) ∧ mr174 S P 98 L (q_gv L 9 :: st) sh M c s) := (propext (mv_R_iff (i := .iload 9) (len := 2) (ax := []) (by decide +kernel))).trans (q_ldI_eq (K := fun st => mr174 S P 98 L st sh M c s))
theorem e174_98 : mr174 S P 98 L st sh M c s = (mr174 S P 100 L (.int (nI 8) :: st) sh M c s) := propext (mv_R_iff (i := .bipush 8) (len := 2) (ax := []) (by decide +kernel))
theorem e174_100 {y : Int32} {x : Int32} : mr174 S P 100 L (.int y :: .int x :: st) sh M c s = (¬ y = nI 0 ∧ mr174 S P 101 L (.int (q_rm x y) :: st) sh M c s) := propext (mv_R_iff (i := .irem) (len := 1) (ax := []) (by decide +kernel))
theorem e174_101 : mr174 S P 101 L st sh M c s = (mr174 S P 103 L (.int (nI 7) :: st) sh M c s) := propext (mv_R_iff (i := .bipush 7) (len := 2) (ax := []) (by decide +kernel))
theorem e174_103 {y : Int32} {x : Int32} : mr174 S P 103 L (.int y :: .int x :: st) sh M c s = (if x = y then mr174 S P 106 L st sh M c s else mr174 S P 118 L st sh M c s) := (propext (mv_R_iff (i := .if_icmp .ne 15) (len := 3) (ax := [118]) (by decide +kernel))).trans (q_br')
theorem e174_106 : mr174 S P 106 L st sh M c s = (q_isA (q_gv L 0) ∧ mr174 S P 107 L (q_gv L 0 :: st) sh M c s) := (propext (mv_R_iff (i := .aload_n 0) (len := 1) (ax := []) (by decide +kernel))).trans (q_ldA_eq (K := fun st => mr174 S P 107 L st sh M c s))
theorem e174_107 {a : Nat} : mr174 S P 107 L (.ref a :: st) sh M c s = (mv_kgf sh M a 5 0 (mr174 S P) 110 L st c s) := propext (mv_R_iff (i := .getfield 7) (len := 3) (ax := [1025, 0, 5, 0]) (by decide +kernel))
theorem e174_110 : mr174 S P 110 L st sh M c s = (mr174 S P 113 L (.int (nI 8819) :: st) sh M c s) := propext (mv_R_iff (i := .sipush 8819) (len := 3) (ax := []) (by decide +kernel))
theorem e174_113 : mr174 S P 113 L st sh M c s = (mr174 S P 114 L (.int (nI 0) :: st) sh M c s) := propext (mv_R_iff (i := .iconst 0) (len := 1) (ax := []) (by decide +kernel))
theorem e174_114 {x : Int32} {i : Int32} {a : Nat} : mr174 S P 114 L (.int x :: .int i :: .ref a :: st) sh M c s = (mv_kst sh M a i x (mr174 S P) 115 L st c s) := propext (mv_R_iff (i := .iastore) (len := 1) (ax := []) (by decide +kernel))
theorem e174_115 : mr174 S P 115 L st sh M c s = (mr174 S P 190 L st sh M c s) := propext (mv_R_iff (i := .goto 75) (len := 3) (ax := [190]) (by decide +kernel))
theorem e174_118 : mr174 S P 118 L st sh M c s = (q_isI (q_gv L 9) ∧ mr174 S P 120 L (q_gv L 9 :: st) sh M c s) := (propext (mv_R_iff (i := .iload 9) (len := 2) (ax := []) (by decide +kernel))).trans (q_ldI_eq (K := fun st => mr174 S P 120 L st sh M c s))
theorem e174_120 : mr174 S P 120 L st sh M c s = (mr174 S P 122 L (.int (nI 8) :: st) sh M c s) := propext (mv_R_iff (i := .bipush 8) (len := 2) (ax := []) (by decide +kernel))
theorem e174_122 {y : Int32} {x : Int32} : mr174 S P 122 L (.int y :: .int x :: st) sh M c s = (¬ y = nI 0 ∧ mr174 S P 123 L (.int (q_rm x y) :: st) sh M c s) := propext (mv_R_iff (i := .irem) (len := 1) (ax := []) (by decide +kernel))
theorem e174_123 : mr174 S P 123 L st sh M c s = (mr174 S P 125 L (.int (nI 6) :: st) sh M c s) := propext (mv_R_iff (i := .bipush 6) (len := 2) (ax := []) (by decide +kernel))
theorem e174_125 {y : Int32} {x : Int32} : mr174 S P 125 L (.int y :: .int x :: st) sh M c s = (if x = y then mr174 S P 128 L st sh M c s else mr174 S P 148 L st sh M c s) := (propext (mv_R_iff (i := .if_icmp .ne 23) (len := 3) (ax := [148]) (by decide +kernel))).trans (q_br')
theorem e174_128 : mr174 S P 128 L st sh M c s = (q_isA (q_gv L 0) ∧ mr174 S P 129 L (q_gv L 0 :: st) sh M c s) := (propext (mv_R_iff (i := .aload_n 0) (len := 1) (ax := []) (by decide +kernel))).trans (q_ldA_eq (K := fun st => mr174 S P 129 L st sh M c s))
theorem e174_129 {a : Nat} : mr174 S P 129 L (.ref a :: st) sh M c s = (mv_kgf sh M a 5 0 (mr174 S P) 132 L st c s) := propext (mv_R_iff (i := .getfield 7) (len := 3) (ax := [1025, 0, 5, 0]) (by decide +kernel))
theorem e174_132 : mr174 S P 132 L st sh M c s = (mr174 S P 135 L (.int (nI 8801) :: st) sh M c s) := propext (mv_R_iff (i := .sipush 8801) (len := 3) (ax := []) (by decide +kernel))
theorem e174_135 : mr174 S P 135 L st sh M c s = (q_isI (q_gv L 10) ∧ mr174 S P 137 L (q_gv L 10 :: st) sh M c s) := (propext (mv_R_iff (i := .iload 10) (len := 2) (ax := []) (by decide +kernel))).trans (q_ldI_eq (K := fun st => mr174 S P 137 L st sh M c s))
theorem e174_137 : mr174 S P 137 L st sh M c s = (q_isA (q_gv L 0) ∧ mr174 S P 138 L (q_gv L 0 :: st) sh M c s) := (propext (mv_R_iff (i := .aload_n 0) (len := 1) (ax := []) (by decide +kernel))).trans (q_ldA_eq (K := fun st => mr174 S P 138 L st sh M c s))
theorem e174_138 {a : Nat} : mr174 S P 138 L (.ref a :: st) sh M c s = (mv_kgf sh M a 5 3 (mr174 S P) 141 L st c s) := propext (mv_R_iff (i := .getfield 151) (len := 3) (ax := [1028, 0, 5, 3]) (by decide +kernel))
theorem e174_141 {y : Int32} {x : Int32} : mr174 S P 141 L (.int y :: .int x :: st) sh M c s = (¬ y = nI 0 ∧ mr174 S P 142 L (.int (q_rm x y) :: st) sh M c s) := propext (mv_R_iff (i := .irem) (len := 1) (ax := []) (by decide +kernel))
theorem e174_142 {y : Int32} {x : Int32} : mr174 S P 142 L (.int y :: .int x :: st) sh M c s = (mr174 S P 143 L (.int (x + y) :: st) sh M c s) := propext (mv_R_iff (i := .iadd) (len := 1) (ax := []) (by decide +kernel))
theorem e174_143 : mr174 S P 143 L st sh M c s = (mr174 S P 144 L (.int (nI 0) :: st) sh M c s) := propext (mv_R_iff (i := .iconst 0) (len := 1) (ax := []) (by decide +kernel))
theorem e174_144 {x : Int32} {i : Int32} {a : Nat} : mr174 S P 144 L (.int x :: .int i :: .ref a :: st) sh M c s = (mv_kst sh M a i x (mr174 S P) 145 L st c s) := propext (mv_R_iff (i := .iastore) (len := 1) (ax := []) (by decide +kernel))
theorem e174_145 : mr174 S P 145 L st sh M c s = (mr174 S P 190 L st sh M c s) := propext (mv_R_iff (i := .goto 45) (len := 3) (ax := [190]) (by decide +kernel))
theorem e174_148 : mr174 S P 148 L st sh M c s = (q_isA (q_gv L 0) ∧ mr174 S P 149 L (q_gv L 0 :: st) sh M c s) := (propext (mv_R_iff (i := .aload_n 0) (len := 1) (ax := []) (by decide +kernel))).trans (q_ldA_eq (K := fun st => mr174 S P 149 L st sh M c s))
theorem e174_149 {a : Nat} : mr174 S P 149 L (.ref a :: st) sh M c s = (mv_kgf sh M a 5 0 (mr174 S P) 152 L st c s) := propext (mv_R_iff (i := .getfield 7) (len := 3) (ax := [1025, 0, 5, 0]) (by decide +kernel))
theorem e174_152 : mr174 S P 152 L st sh M c s = (mr174 S P 155 L (.int (nI 8819) :: st) sh M c s) := propext (mv_R_iff (i := .sipush 8819) (len := 3) (ax := []) (by decide +kernel))
theorem e174_155 {i : Int32} {a : Nat} : mr174 S P 155 L (.int i :: .ref a :: st) sh M c s = (mv_kld sh M a i (mr174 S P) 156 L st c s) := propext (mv_R_iff (i := .iaload) (len := 1) (ax := []) (by decide +kernel))
theorem e174_156 : mr174 S P 156 L st sh M c s = (mr174 S P 158 L (.int (nI 24) :: st) sh M c s) := propext (mv_R_iff (i := .bipush 24) (len := 2) (ax := []) (by decide +kernel))
theorem e174_158 {y : Int32} {x : Int32} : mr174 S P 158 L (.int y :: .int x :: st) sh M c s = (if y ≤ x then mr174 S P 190 L st sh M c s else mr174 S P 161 L st sh M c s) := (propext (mv_R_iff (i := .if_icmp .ge 32) (len := 3) (ax := [190]) (by decide +kernel))).trans (q_br)
theorem e174_161 : mr174 S P 161 L st sh M c s = (q_isI (q_gv L 5) ∧ mr174 S P 163 L (q_gv L 5 :: st) sh M c s) := (propext (mv_R_iff (i := .iload 5) (len := 2) (ax := []) (by decide +kernel))).trans (q_ldI_eq (K := fun st => mr174 S P 163 L st sh M c s))
theorem e174_163 : mr174 S P 163 L st sh M c s = (q_isA (q_gv L 0) ∧ mr174 S P 164 L (q_gv L 0 :: st) sh M c s) := (propext (mv_R_iff (i := .aload_n 0) (len := 1) (ax := []) (by decide +kernel))).trans (q_ldA_eq (K := fun st => mr174 S P 164 L st sh M c s))
theorem e174_164 : mr174 S P 164 L st sh M c s = (mr174 S P 167 L (.int (nI 8789) :: st) sh M c s) := propext (mv_R_iff (i := .sipush 8789) (len := 3) (ax := []) (by decide +kernel))
theorem e174_167 : mr174 S P 167 L st sh M c s = (q_isI (q_gv L 10) ∧ mr174 S P 169 L (q_gv L 10 :: st) sh M c s) := (propext (mv_R_iff (i := .iload 10) (len := 2) (ax := []) (by decide +kernel))).trans (q_ldI_eq (K := fun st => mr174 S P 169 L st sh M c s))
theorem e174_169 : mr174 S P 169 L st sh M c s = (q_isA (q_gv L 0) ∧ mr174 S P 170 L (q_gv L 0 :: st) sh M c s) := (propext (mv_R_iff (i := .aload_n 0) (len := 1) (ax := []) (by decide +kernel))).trans (q_ldA_eq (K := fun st => mr174 S P 170 L st sh M c s))
theorem e174_170 {a : Nat} : mr174 S P 170 L (.ref a :: st) sh M c s = (mv_kgf sh M a 5 7 (mr174 S P) 173 L st c s) := propext (mv_R_iff (i := .getfield 154) (len := 3) (ax := [1032, 0, 5, 7]) (by decide +kernel))
theorem e174_173 {y : Int32} {x : Int32} : mr174 S P 173 L (.int y :: .int x :: st) sh M c s = (¬ y = nI 0 ∧ mr174 S P 174 L (.int (q_rm x y) :: st) sh M c s) := propext (mv_R_iff (i := .irem) (len := 1) (ax := []) (by decide +kernel))
theorem e174_174 : mr174 S P 174 L st sh M c s = (q_isI (q_gv L 9) ∧ mr174 S P 176 L (q_gv L 9 :: st) sh M c s) := (propext (mv_R_iff (i := .iload 9) (len := 2) (ax := []) (by decide +kernel))).trans (q_ldI_eq (K := fun st => mr174 S P 176 L st sh M c s))
theorem e174_176 : mr174 S P 176 L st sh M c s = (mr174 S P 178 L (.int (nI 64) :: st) sh M c s) := propext (mv_R_iff (i := .bipush 64) (len := 2) (ax := []) (by decide +kernel))
theorem e174_178 {y : Int32} {x : Int32} : mr174 S P 178 L (.int y :: .int x :: st) sh M c s = (¬ y = nI 0 ∧ mr174 S P 179 L (.int (x / y) :: st) sh M c s) := propext (mv_R_iff (i := .idiv) (len := 1) (ax := []) (by decide +kernel))
theorem e174_179 : mr174 S P 179 L st sh M c s = (mr174 S P 180 L (.int (nI 2) :: st) sh M c s) := propext (mv_R_iff (i := .iconst 2) (len := 1) (ax := []) (by decide +kernel))
theorem e174_180 {y : Int32} {x : Int32} : mr174 S P 180 L (.int y :: .int x :: st) sh M c s = (¬ y = nI 0 ∧ mr174 S P 181 L (.int (q_rm x y) :: st) sh M c s) := propext (mv_R_iff (i := .irem) (len := 1) (ax := []) (by decide +kernel))
theorem e174_181 {v4 : Value} {v3 : Value} {v2 : Value} {v1 : Value} : mr174 S P 181 L (v4 :: v3 :: v2 :: v1 :: st) sh M c s = (mv_ss st ≤ 8 ∧ c ≤ 0 ∧ s ≤ 0 ∧ mv_isO sh (some v1) 5 ∧ mv_kal S 165 [v1, v2, v3, v4] sh M (mr174 S P) 184 L st c s) := (propext (mv_R_iff (i := .invokevirtual 215) (len := 3) (ax := [0, 165, 4, 5, 0, 0, 0, 1219, 1221, 86, 119, 1222]) (by decide +kernel))).trans (q_call0)
theorem e174_184 {y : Int32} {x : Int32} : mr174 S P 184 L (.int y :: .int x :: st) sh M c s = (mr174 S P 185 L (.int (x + y) :: st) sh M c s) := propext (mv_R_iff (i := .iadd) (len := 1) (ax := []) (by decide +kernel))
theorem e174_185 {x : Int32} : mr174 S P 185 L (.int x :: st) sh M c s = (q_hs L 5 ∧ mr174 S P 187 (L.set 5 (some (.int x))) st sh M c s) := (propext (mv_R_iff (i := .istore 5) (len := 2) (ax := []) (by decide +kernel))).trans (q_st_eq (K := fun L => mr174 S P 187 L st sh M c s))
theorem e174_187 : mr174 S P 187 L st sh M c s = ((q_isI (q_gv L 4) ∧ q_hs L 4) ∧ mr174 S P 190 (L.set 4 (some (q_inc (q_gv L 4) (nI 1)))) st sh M c s) := (propext (mv_R_iff (i := .iinc 4 1) (len := 3) (ax := []) (by decide +kernel))).trans (q_inc_eq (K := fun L => mr174 S P 190 L st sh M c s))
theorem e174_190 : mr174 S P 190 L st sh M c s = ((q_isI (q_gv L 6) ∧ q_hs L 6) ∧ mr174 S P 193 (L.set 6 (some (q_inc (q_gv L 6) (nI 1)))) st sh M c s) := (propext (mv_R_iff (i := .iinc 6 1) (len := 3) (ax := []) (by decide +kernel))).trans (q_inc_eq (K := fun L => mr174 S P 193 L st sh M c s))
theorem e174_193 : mr174 S P 193 L st sh M c s = (mr174 S P 53 L st sh M c s) := propext (mv_R_iff (i := .goto (-140)) (len := 3) (ax := [53]) (by decide +kernel))
theorem e174_196 : mr174 S P 196 L st sh M c s = (q_isI (q_gv L 3) ∧ mr174 S P 197 L (q_gv L 3 :: st) sh M c s) := (propext (mv_R_iff (i := .iload_n 3) (len := 1) (ax := []) (by decide +kernel))).trans (q_ldI_eq (K := fun st => mr174 S P 197 L st sh M c s))
theorem e174_197 {x : Int32} : mr174 S P 197 L (.int x :: st) sh M c s = (if x = nI 0 then mr174 S P 200 L st sh M c s else mr174 S P 205 L st sh M c s) := (propext (mv_R_iff (i := .ifCond .ne 8) (len := 3) (ax := [205]) (by decide +kernel))).trans (q_br')
theorem e174_200 : mr174 S P 200 L st sh M c s = (q_isI (q_gv L 4) ∧ mr174 S P 202 L (q_gv L 4 :: st) sh M c s) := (propext (mv_R_iff (i := .iload 4) (len := 2) (ax := []) (by decide +kernel))).trans (q_ldI_eq (K := fun st => mr174 S P 202 L st sh M c s))
theorem e174_202 : mr174 S P 202 L st sh M c s = (mr174 S P 207 L st sh M c s) := propext (mv_R_iff (i := .goto 5) (len := 3) (ax := [207]) (by decide +kernel))
theorem e174_205 : mr174 S P 205 L st sh M c s = (q_isI (q_gv L 5) ∧ mr174 S P 207 L (q_gv L 5 :: st) sh M c s) := (propext (mv_R_iff (i := .iload 5) (len := 2) (ax := []) (by decide +kernel))).trans (q_ldI_eq (K := fun st => mr174 S P 207 L st sh M c s))
theorem e174_207 {x : Int32} : mr174 S P 207 L [.int x] sh M c s = (mv_nr 0 x ∧ P (some (.int x)) sh M) := propext (mv_R_iff (i := .ireturn) (len := 1) (ax := [0]) (by decide +kernel))
-- 175: TurnedTabletsModel.bits(I)I
def mk175 : mv_Cd := [
  (0, .iconst 0, 1, []),
  (1, .istore_n 1, 1, []),
  (2, .iconst 0, 1, []),
  (3, .istore_n 2, 1, []),
  (4, .iload_n 2, 1, []),
  (5, .bipush 6, 2, []),
  (7, .if_icmp .ge 17, 3, [24]),
  (10, .iload_n 1, 1, []),
  (11, .iload_n 0, 1, []),
  (12, .iload_n 2, 1, []),
  (13, .ishr, 1, []),
  (14, .iconst 1, 1, []),
  (15, .iand, 1, []),
  (16, .iadd, 1, []),
  (17, .istore_n 1, 1, []),
  (18, .iinc 2 1, 3, []),
  (21, .goto (-17), 3, [4]),
  (24, .iload_n 1, 1, []),
  (25, .ireturn, 1, [0])]
def mr175 (S : Nat → mv_Sp) (P : mv_Post) : mv_Kt := mv_R mv_DF mk175 S (0, 0) P
theorem e175_0 : mr175 S P 0 L st sh M c s = (mr175 S P 1 L (.int (nI 0) :: st) sh M c s) := propext (mv_R_iff (i := .iconst 0) (len := 1) (ax := []) (by decide +kernel))
theorem e175_1 {x : Int32} : mr175 S P 1 L (.int x :: st) sh M c s = (q_hs L 1 ∧ mr175 S P 2 (L.set 1 (some (.int x))) st sh M c s) := (propext (mv_R_iff (i := .istore_n 1) (len := 1) (ax := []) (by decide +kernel))).trans (q_st_eq (K := fun L => mr175 S P 2 L st sh M c s))
theorem e175_2 : mr175 S P 2 L st sh M c s = (mr175 S P 3 L (.int (nI 0) :: st) sh M c s) := propext (mv_R_iff (i := .iconst 0) (len := 1) (ax := []) (by decide +kernel))
theorem e175_3 {x : Int32} : mr175 S P 3 L (.int x :: st) sh M c s = (q_hs L 2 ∧ mr175 S P 4 (L.set 2 (some (.int x))) st sh M c s) := (propext (mv_R_iff (i := .istore_n 2) (len := 1) (ax := []) (by decide +kernel))).trans (q_st_eq (K := fun L => mr175 S P 4 L st sh M c s))
theorem e175_4 : mr175 S P 4 L st sh M c s = (q_isI (q_gv L 2) ∧ mr175 S P 5 L (q_gv L 2 :: st) sh M c s) := (propext (mv_R_iff (i := .iload_n 2) (len := 1) (ax := []) (by decide +kernel))).trans (q_ldI_eq (K := fun st => mr175 S P 5 L st sh M c s))
theorem e175_5 : mr175 S P 5 L st sh M c s = (mr175 S P 7 L (.int (nI 6) :: st) sh M c s) := propext (mv_R_iff (i := .bipush 6) (len := 2) (ax := []) (by decide +kernel))
theorem e175_7 {y : Int32} {x : Int32} : mr175 S P 7 L (.int y :: .int x :: st) sh M c s = (if y ≤ x then mr175 S P 24 L st sh M c s else mr175 S P 10 L st sh M c s) := (propext (mv_R_iff (i := .if_icmp .ge 17) (len := 3) (ax := [24]) (by decide +kernel))).trans (q_br)
theorem e175_10 : mr175 S P 10 L st sh M c s = (q_isI (q_gv L 1) ∧ mr175 S P 11 L (q_gv L 1 :: st) sh M c s) := (propext (mv_R_iff (i := .iload_n 1) (len := 1) (ax := []) (by decide +kernel))).trans (q_ldI_eq (K := fun st => mr175 S P 11 L st sh M c s))
theorem e175_11 : mr175 S P 11 L st sh M c s = (q_isI (q_gv L 0) ∧ mr175 S P 12 L (q_gv L 0 :: st) sh M c s) := (propext (mv_R_iff (i := .iload_n 0) (len := 1) (ax := []) (by decide +kernel))).trans (q_ldI_eq (K := fun st => mr175 S P 12 L st sh M c s))
theorem e175_12 : mr175 S P 12 L st sh M c s = (q_isI (q_gv L 2) ∧ mr175 S P 13 L (q_gv L 2 :: st) sh M c s) := (propext (mv_R_iff (i := .iload_n 2) (len := 1) (ax := []) (by decide +kernel))).trans (q_ldI_eq (K := fun st => mr175 S P 13 L st sh M c s))
theorem e175_13 {y : Int32} {x : Int32} : mr175 S P 13 L (.int y :: .int x :: st) sh M c s = (mr175 S P 14 L (.int (x >>> (y &&& 31)) :: st) sh M c s) := propext (mv_R_iff (i := .ishr) (len := 1) (ax := []) (by decide +kernel))
theorem e175_14 : mr175 S P 14 L st sh M c s = (mr175 S P 15 L (.int (nI 1) :: st) sh M c s) := propext (mv_R_iff (i := .iconst 1) (len := 1) (ax := []) (by decide +kernel))
theorem e175_15 {y : Int32} {x : Int32} : mr175 S P 15 L (.int y :: .int x :: st) sh M c s = (mr175 S P 16 L (.int (x &&& y) :: st) sh M c s) := propext (mv_R_iff (i := .iand) (len := 1) (ax := []) (by decide +kernel))
theorem e175_16 {y : Int32} {x : Int32} : mr175 S P 16 L (.int y :: .int x :: st) sh M c s = (mr175 S P 17 L (.int (x + y) :: st) sh M c s) := propext (mv_R_iff (i := .iadd) (len := 1) (ax := []) (by decide +kernel))
theorem e175_17 {x : Int32} : mr175 S P 17 L (.int x :: st) sh M c s = (q_hs L 1 ∧ mr175 S P 18 (L.set 1 (some (.int x))) st sh M c s) := (propext (mv_R_iff (i := .istore_n 1) (len := 1) (ax := []) (by decide +kernel))).trans (q_st_eq (K := fun L => mr175 S P 18 L st sh M c s))
theorem e175_18 : mr175 S P 18 L st sh M c s = ((q_isI (q_gv L 2) ∧ q_hs L 2) ∧ mr175 S P 21 (L.set 2 (some (q_inc (q_gv L 2) (nI 1)))) st sh M c s) := (propext (mv_R_iff (i := .iinc 2 1) (len := 3) (ax := []) (by decide +kernel))).trans (q_inc_eq (K := fun L => mr175 S P 21 L st sh M c s))
theorem e175_21 : mr175 S P 21 L st sh M c s = (mr175 S P 4 L st sh M c s) := propext (mv_R_iff (i := .goto (-17)) (len := 3) (ax := [4]) (by decide +kernel))
theorem e175_24 : mr175 S P 24 L st sh M c s = (q_isI (q_gv L 1) ∧ mr175 S P 25 L (q_gv L 1 :: st) sh M c s) := (propext (mv_R_iff (i := .iload_n 1) (len := 1) (ax := []) (by decide +kernel))).trans (q_ldI_eq (K := fun st => mr175 S P 25 L st sh M c s))
theorem e175_25 {x : Int32} : mr175 S P 25 L [.int x] sh M c s = (mv_nr 0 x ∧ P (some (.int x)) sh M) := propext (mv_R_iff (i := .ireturn) (len := 1) (ax := [0]) (by decide +kernel))
-- 176: TurnedTabletsModel.everyPack()I
def mk176 : mv_Cd := [
  (0, .iconst 1, 1, []),
  (1, .aload_n 0, 1, []),
  (2, .getfield 154, 3, [1032, 0, 5, 7]),
  (5, .ishl, 1, []),
  (6, .iconst 1, 1, []),
  (7, .isub, 1, []),
  (8, .ireturn, 1, [0])]
def mr176 (S : Nat → mv_Sp) (P : mv_Post) : mv_Kt := mv_R mv_DF mk176 S (0, 0) P
theorem e176_0 : mr176 S P 0 L st sh M c s = (mr176 S P 1 L (.int (nI 1) :: st) sh M c s) := propext (mv_R_iff (i := .iconst 1) (len := 1) (ax := []) (by decide +kernel))
theorem e176_1 : mr176 S P 1 L st sh M c s = (q_isA (q_gv L 0) ∧ mr176 S P 2 L (q_gv L 0 :: st) sh M c s) := (propext (mv_R_iff (i := .aload_n 0) (len := 1) (ax := []) (by decide +kernel))).trans (q_ldA_eq (K := fun st => mr176 S P 2 L st sh M c s))
theorem e176_2 {a : Nat} : mr176 S P 2 L (.ref a :: st) sh M c s = (mv_kgf sh M a 5 7 (mr176 S P) 5 L st c s) := propext (mv_R_iff (i := .getfield 154) (len := 3) (ax := [1032, 0, 5, 7]) (by decide +kernel))
theorem e176_5 {y : Int32} {x : Int32} : mr176 S P 5 L (.int y :: .int x :: st) sh M c s = (mr176 S P 6 L (.int (x <<< (y &&& 31)) :: st) sh M c s) := propext (mv_R_iff (i := .ishl) (len := 1) (ax := []) (by decide +kernel))
theorem e176_6 : mr176 S P 6 L st sh M c s = (mr176 S P 7 L (.int (nI 1) :: st) sh M c s) := propext (mv_R_iff (i := .iconst 1) (len := 1) (ax := []) (by decide +kernel))
theorem e176_7 {y : Int32} {x : Int32} : mr176 S P 7 L (.int y :: .int x :: st) sh M c s = (mr176 S P 8 L (.int (x - y) :: st) sh M c s) := propext (mv_R_iff (i := .isub) (len := 1) (ax := []) (by decide +kernel))
theorem e176_8 {x : Int32} : mr176 S P 8 L [.int x] sh M c s = (mv_nr 0 x ∧ P (some (.int x)) sh M) := propext (mv_R_iff (i := .ireturn) (len := 1) (ax := [0]) (by decide +kernel))
-- 177: TurnedTabletsModel.comeTo(III)V
def mk177 : mv_Cd := [
  (0, .aload_n 0, 1, []),
  (1, .getfield 68, 3, [1059, 0, 5, 34]),
  (4, .iload_n 1, 1, []),
  (5, .iaload, 1, []),
  (6, .ifCond .ge 37, 3, [43]),
  (9, .aload_n 0, 1, []),
  (10, .getfield 68, 3, [1059, 0, 5, 34]),
  (13, .iload_n 1, 1, []),
  (14, .iload_n 3, 1, []),
  (15, .iastore, 1, []),
  (16, .aload_n 0, 1, []),
  (17, .getfield 65, 3, [1058, 0, 5, 33]),
  (20, .iload_n 1, 1, []),
  (21, .iload_n 2, 1, []),
  (22, .iastore, 1, []),
  (23, .aload_n 0, 1, []),
  (24, .getfield 71, 3, [1060, 0, 5, 35]),
  (27, .aload_n 0, 1, []),
  (28, .getfield 227, 3, [1061, 0, 5, 36]),
  (31, .iload_n 1, 1, []),
  (32, .iastore, 1, []),
  (33, .aload_n 0, 1, []),
  (34, .dup, 1, []),
  (35, .getfield 227, 3, [1061, 0, 5, 36]),
  (38, .iconst 1, 1, []),
  (39, .iadd, 1, []),
  (40, .putfield 227, 3, [1061, 0, 5, 36, 0]),
  (43, .return_, 1, [])]
def mr177 (S : Nat → mv_Sp) (P : mv_Post) : mv_Kt := mv_R mv_DF mk177 S (0, 0) P
theorem e177_0 : mr177 S P 0 L st sh M c s = (q_isA (q_gv L 0) ∧ mr177 S P 1 L (q_gv L 0 :: st) sh M c s) := (propext (mv_R_iff (i := .aload_n 0) (len := 1) (ax := []) (by decide +kernel))).trans (q_ldA_eq (K := fun st => mr177 S P 1 L st sh M c s))
theorem e177_1 {a : Nat} : mr177 S P 1 L (.ref a :: st) sh M c s = (mv_kgf sh M a 5 34 (mr177 S P) 4 L st c s) := propext (mv_R_iff (i := .getfield 68) (len := 3) (ax := [1059, 0, 5, 34]) (by decide +kernel))
theorem e177_4 : mr177 S P 4 L st sh M c s = (q_isI (q_gv L 1) ∧ mr177 S P 5 L (q_gv L 1 :: st) sh M c s) := (propext (mv_R_iff (i := .iload_n 1) (len := 1) (ax := []) (by decide +kernel))).trans (q_ldI_eq (K := fun st => mr177 S P 5 L st sh M c s))
theorem e177_5 {i : Int32} {a : Nat} : mr177 S P 5 L (.int i :: .ref a :: st) sh M c s = (mv_kld sh M a i (mr177 S P) 6 L st c s) := propext (mv_R_iff (i := .iaload) (len := 1) (ax := []) (by decide +kernel))
theorem e177_6 {x : Int32} : mr177 S P 6 L (.int x :: st) sh M c s = (if nI 0 ≤ x then mr177 S P 43 L st sh M c s else mr177 S P 9 L st sh M c s) := (propext (mv_R_iff (i := .ifCond .ge 37) (len := 3) (ax := [43]) (by decide +kernel))).trans (q_br)
theorem e177_9 : mr177 S P 9 L st sh M c s = (q_isA (q_gv L 0) ∧ mr177 S P 10 L (q_gv L 0 :: st) sh M c s) := (propext (mv_R_iff (i := .aload_n 0) (len := 1) (ax := []) (by decide +kernel))).trans (q_ldA_eq (K := fun st => mr177 S P 10 L st sh M c s))
theorem e177_10 {a : Nat} : mr177 S P 10 L (.ref a :: st) sh M c s = (mv_kgf sh M a 5 34 (mr177 S P) 13 L st c s) := propext (mv_R_iff (i := .getfield 68) (len := 3) (ax := [1059, 0, 5, 34]) (by decide +kernel))
theorem e177_13 : mr177 S P 13 L st sh M c s = (q_isI (q_gv L 1) ∧ mr177 S P 14 L (q_gv L 1 :: st) sh M c s) := (propext (mv_R_iff (i := .iload_n 1) (len := 1) (ax := []) (by decide +kernel))).trans (q_ldI_eq (K := fun st => mr177 S P 14 L st sh M c s))
theorem e177_14 : mr177 S P 14 L st sh M c s = (q_isI (q_gv L 3) ∧ mr177 S P 15 L (q_gv L 3 :: st) sh M c s) := (propext (mv_R_iff (i := .iload_n 3) (len := 1) (ax := []) (by decide +kernel))).trans (q_ldI_eq (K := fun st => mr177 S P 15 L st sh M c s))
theorem e177_15 {x : Int32} {i : Int32} {a : Nat} : mr177 S P 15 L (.int x :: .int i :: .ref a :: st) sh M c s = (mv_kst sh M a i x (mr177 S P) 16 L st c s) := propext (mv_R_iff (i := .iastore) (len := 1) (ax := []) (by decide +kernel))
theorem e177_16 : mr177 S P 16 L st sh M c s = (q_isA (q_gv L 0) ∧ mr177 S P 17 L (q_gv L 0 :: st) sh M c s) := (propext (mv_R_iff (i := .aload_n 0) (len := 1) (ax := []) (by decide +kernel))).trans (q_ldA_eq (K := fun st => mr177 S P 17 L st sh M c s))
theorem e177_17 {a : Nat} : mr177 S P 17 L (.ref a :: st) sh M c s = (mv_kgf sh M a 5 33 (mr177 S P) 20 L st c s) := propext (mv_R_iff (i := .getfield 65) (len := 3) (ax := [1058, 0, 5, 33]) (by decide +kernel))
theorem e177_20 : mr177 S P 20 L st sh M c s = (q_isI (q_gv L 1) ∧ mr177 S P 21 L (q_gv L 1 :: st) sh M c s) := (propext (mv_R_iff (i := .iload_n 1) (len := 1) (ax := []) (by decide +kernel))).trans (q_ldI_eq (K := fun st => mr177 S P 21 L st sh M c s))
theorem e177_21 : mr177 S P 21 L st sh M c s = (q_isI (q_gv L 2) ∧ mr177 S P 22 L (q_gv L 2 :: st) sh M c s) := (propext (mv_R_iff (i := .iload_n 2) (len := 1) (ax := []) (by decide +kernel))).trans (q_ldI_eq (K := fun st => mr177 S P 22 L st sh M c s))
theorem e177_22 {x : Int32} {i : Int32} {a : Nat} : mr177 S P 22 L (.int x :: .int i :: .ref a :: st) sh M c s = (mv_kst sh M a i x (mr177 S P) 23 L st c s) := propext (mv_R_iff (i := .iastore) (len := 1) (ax := []) (by decide +kernel))
theorem e177_23 : mr177 S P 23 L st sh M c s = (q_isA (q_gv L 0) ∧ mr177 S P 24 L (q_gv L 0 :: st) sh M c s) := (propext (mv_R_iff (i := .aload_n 0) (len := 1) (ax := []) (by decide +kernel))).trans (q_ldA_eq (K := fun st => mr177 S P 24 L st sh M c s))
theorem e177_24 {a : Nat} : mr177 S P 24 L (.ref a :: st) sh M c s = (mv_kgf sh M a 5 35 (mr177 S P) 27 L st c s) := propext (mv_R_iff (i := .getfield 71) (len := 3) (ax := [1060, 0, 5, 35]) (by decide +kernel))
theorem e177_27 : mr177 S P 27 L st sh M c s = (q_isA (q_gv L 0) ∧ mr177 S P 28 L (q_gv L 0 :: st) sh M c s) := (propext (mv_R_iff (i := .aload_n 0) (len := 1) (ax := []) (by decide +kernel))).trans (q_ldA_eq (K := fun st => mr177 S P 28 L st sh M c s))
theorem e177_28 {a : Nat} : mr177 S P 28 L (.ref a :: st) sh M c s = (mv_kgf sh M a 5 36 (mr177 S P) 31 L st c s) := propext (mv_R_iff (i := .getfield 227) (len := 3) (ax := [1061, 0, 5, 36]) (by decide +kernel))
theorem e177_31 : mr177 S P 31 L st sh M c s = (q_isI (q_gv L 1) ∧ mr177 S P 32 L (q_gv L 1 :: st) sh M c s) := (propext (mv_R_iff (i := .iload_n 1) (len := 1) (ax := []) (by decide +kernel))).trans (q_ldI_eq (K := fun st => mr177 S P 32 L st sh M c s))
theorem e177_32 {x : Int32} {i : Int32} {a : Nat} : mr177 S P 32 L (.int x :: .int i :: .ref a :: st) sh M c s = (mv_kst sh M a i x (mr177 S P) 33 L st c s) := propext (mv_R_iff (i := .iastore) (len := 1) (ax := []) (by decide +kernel))
theorem e177_33 : mr177 S P 33 L st sh M c s = (q_isA (q_gv L 0) ∧ mr177 S P 34 L (q_gv L 0 :: st) sh M c s) := (propext (mv_R_iff (i := .aload_n 0) (len := 1) (ax := []) (by decide +kernel))).trans (q_ldA_eq (K := fun st => mr177 S P 34 L st sh M c s))
theorem e177_34 {x : Int32} : mr177 S P 34 L (.int x :: st) sh M c s = (mr177 S P 35 L (.int x :: .int x :: st) sh M c s) := propext (mv_R_iff (i := .dup) (len := 1) (ax := []) (by decide +kernel))
theorem e177_34r {x : Nat} : mr177 S P 34 L (.ref x :: st) sh M c s = (mr177 S P 35 L (.ref x :: .ref x :: st) sh M c s) := propext (mv_R_iff (i := .dup) (len := 1) (ax := []) (by decide +kernel))
theorem e177_35 {a : Nat} : mr177 S P 35 L (.ref a :: st) sh M c s = (mv_kgf sh M a 5 36 (mr177 S P) 38 L st c s) := propext (mv_R_iff (i := .getfield 227) (len := 3) (ax := [1061, 0, 5, 36]) (by decide +kernel))
theorem e177_38 : mr177 S P 38 L st sh M c s = (mr177 S P 39 L (.int (nI 1) :: st) sh M c s) := propext (mv_R_iff (i := .iconst 1) (len := 1) (ax := []) (by decide +kernel))
theorem e177_39 {y : Int32} {x : Int32} : mr177 S P 39 L (.int y :: .int x :: st) sh M c s = (mr177 S P 40 L (.int (x + y) :: st) sh M c s) := propext (mv_R_iff (i := .iadd) (len := 1) (ax := []) (by decide +kernel))
theorem e177_40 {x : Int32} {a : Nat} : mr177 S P 40 L (.int x :: .ref a :: st) sh M c s = (True ∧ mv_kpf sh M a 5 36 x (mr177 S P) 43 L st c s) := propext (mv_R_iff (i := .putfield 227) (len := 3) (ax := [1061, 0, 5, 36, 0]) (by decide +kernel))
theorem e177_43 : mr177 S P 43 L [] sh M c s = (P none sh M) := propext (mv_R_iff (i := .return_) (len := 1) (ax := []) (by decide +kernel))
-- 178: TurnedTabletsModel.goOnFrom(II)V
def mk178 : mv_Cd := [
  (0, .iconst 0, 1, []),
  (1, .istore_n 3, 1, []),
  (2, .iload_n 3, 1, []),
  (3, .iconst 2, 1, []),
  (4, .aload_n 0, 1, []),
  (5, .getfield 154, 3, [1032, 0, 5, 7]),
  (8, .imul, 1, []),
  (9, .if_icmp .ge 35, 3, [44]),
  (12, .iload_n 2, 1, []),
  (13, .iload_n 3, 1, []),
  (14, .iconst 2, 1, []),
  (15, .idiv, 1, []),
  (16, .invokestatic 124, 3, [3, 148, 2, 0, 0, 0, 0, 1014, 1015, 119, 1016]),
  (19, .ifCond .eq 19, 3, [38]),
  (22, .aload_n 0, 1, []),
  (23, .iload_n 1, 1, []),
  (24, .aload_n 0, 1, []),
  (25, .getfield 52, 3, [1053, 0, 5, 28]),
  (28, .iload_n 3, 1, []),
  (29, .iaload, 1, []),
  (30, .invokestatic 230, 3, [3, 171, 2, 0, 0, 0, 0, 1319, 1320, 119, 1321]),
  (33, .iload_n 1, 1, []),
  (34, .iload_n 3, 1, []),
  (35, .invokevirtual 233, 3, [0, 177, 4, 5, 0, 0, 0, 1311, 1313, 98, 119, 1314]),
  (38, .iinc 3 1, 3, []),
  (41, .goto (-39), 3, [2]),
  (44, .return_, 1, [])]
def mr178 (S : Nat → mv_Sp) (P : mv_Post) : mv_Kt := mv_R mv_DF mk178 S (0, 0) P
theorem e178_0 : mr178 S P 0 L st sh M c s = (mr178 S P 1 L (.int (nI 0) :: st) sh M c s) := propext (mv_R_iff (i := .iconst 0) (len := 1) (ax := []) (by decide +kernel))
theorem e178_1 {x : Int32} : mr178 S P 1 L (.int x :: st) sh M c s = (q_hs L 3 ∧ mr178 S P 2 (L.set 3 (some (.int x))) st sh M c s) := (propext (mv_R_iff (i := .istore_n 3) (len := 1) (ax := []) (by decide +kernel))).trans (q_st_eq (K := fun L => mr178 S P 2 L st sh M c s))
theorem e178_2 : mr178 S P 2 L st sh M c s = (q_isI (q_gv L 3) ∧ mr178 S P 3 L (q_gv L 3 :: st) sh M c s) := (propext (mv_R_iff (i := .iload_n 3) (len := 1) (ax := []) (by decide +kernel))).trans (q_ldI_eq (K := fun st => mr178 S P 3 L st sh M c s))
theorem e178_3 : mr178 S P 3 L st sh M c s = (mr178 S P 4 L (.int (nI 2) :: st) sh M c s) := propext (mv_R_iff (i := .iconst 2) (len := 1) (ax := []) (by decide +kernel))
theorem e178_4 : mr178 S P 4 L st sh M c s = (q_isA (q_gv L 0) ∧ mr178 S P 5 L (q_gv L 0 :: st) sh M c s) := (propext (mv_R_iff (i := .aload_n 0) (len := 1) (ax := []) (by decide +kernel))).trans (q_ldA_eq (K := fun st => mr178 S P 5 L st sh M c s))
theorem e178_5 {a : Nat} : mr178 S P 5 L (.ref a :: st) sh M c s = (mv_kgf sh M a 5 7 (mr178 S P) 8 L st c s) := propext (mv_R_iff (i := .getfield 154) (len := 3) (ax := [1032, 0, 5, 7]) (by decide +kernel))
theorem e178_8 {y : Int32} {x : Int32} : mr178 S P 8 L (.int y :: .int x :: st) sh M c s = (mr178 S P 9 L (.int (x * y) :: st) sh M c s) := propext (mv_R_iff (i := .imul) (len := 1) (ax := []) (by decide +kernel))
theorem e178_9 {y : Int32} {x : Int32} : mr178 S P 9 L (.int y :: .int x :: st) sh M c s = (if y ≤ x then mr178 S P 44 L st sh M c s else mr178 S P 12 L st sh M c s) := (propext (mv_R_iff (i := .if_icmp .ge 35) (len := 3) (ax := [44]) (by decide +kernel))).trans (q_br)
theorem e178_12 : mr178 S P 12 L st sh M c s = (q_isI (q_gv L 2) ∧ mr178 S P 13 L (q_gv L 2 :: st) sh M c s) := (propext (mv_R_iff (i := .iload_n 2) (len := 1) (ax := []) (by decide +kernel))).trans (q_ldI_eq (K := fun st => mr178 S P 13 L st sh M c s))
theorem e178_13 : mr178 S P 13 L st sh M c s = (q_isI (q_gv L 3) ∧ mr178 S P 14 L (q_gv L 3 :: st) sh M c s) := (propext (mv_R_iff (i := .iload_n 3) (len := 1) (ax := []) (by decide +kernel))).trans (q_ldI_eq (K := fun st => mr178 S P 14 L st sh M c s))
theorem e178_14 : mr178 S P 14 L st sh M c s = (mr178 S P 15 L (.int (nI 2) :: st) sh M c s) := propext (mv_R_iff (i := .iconst 2) (len := 1) (ax := []) (by decide +kernel))
theorem e178_15 {y : Int32} {x : Int32} : mr178 S P 15 L (.int y :: .int x :: st) sh M c s = (¬ y = nI 0 ∧ mr178 S P 16 L (.int (x / y) :: st) sh M c s) := propext (mv_R_iff (i := .idiv) (len := 1) (ax := []) (by decide +kernel))
theorem e178_16 {v2 : Value} {v1 : Value} : mr178 S P 16 L (v2 :: v1 :: st) sh M c s = (mv_ss st ≤ 8 ∧ c ≤ 0 ∧ s ≤ 0 ∧ True ∧ mv_kal S 148 [v1, v2] sh M (mr178 S P) 19 L st c s) := (propext (mv_R_iff (i := .invokestatic 124) (len := 3) (ax := [3, 148, 2, 0, 0, 0, 0, 1014, 1015, 119, 1016]) (by decide +kernel))).trans (q_call3)
theorem e178_19 {x : Int32} : mr178 S P 19 L (.int x :: st) sh M c s = (if x = nI 0 then mr178 S P 38 L st sh M c s else mr178 S P 22 L st sh M c s) := (propext (mv_R_iff (i := .ifCond .eq 19) (len := 3) (ax := [38]) (by decide +kernel))).trans (q_br)
theorem e178_22 : mr178 S P 22 L st sh M c s = (q_isA (q_gv L 0) ∧ mr178 S P 23 L (q_gv L 0 :: st) sh M c s) := (propext (mv_R_iff (i := .aload_n 0) (len := 1) (ax := []) (by decide +kernel))).trans (q_ldA_eq (K := fun st => mr178 S P 23 L st sh M c s))
theorem e178_23 : mr178 S P 23 L st sh M c s = (q_isI (q_gv L 1) ∧ mr178 S P 24 L (q_gv L 1 :: st) sh M c s) := (propext (mv_R_iff (i := .iload_n 1) (len := 1) (ax := []) (by decide +kernel))).trans (q_ldI_eq (K := fun st => mr178 S P 24 L st sh M c s))
theorem e178_24 : mr178 S P 24 L st sh M c s = (q_isA (q_gv L 0) ∧ mr178 S P 25 L (q_gv L 0 :: st) sh M c s) := (propext (mv_R_iff (i := .aload_n 0) (len := 1) (ax := []) (by decide +kernel))).trans (q_ldA_eq (K := fun st => mr178 S P 25 L st sh M c s))
theorem e178_25 {a : Nat} : mr178 S P 25 L (.ref a :: st) sh M c s = (mv_kgf sh M a 5 28 (mr178 S P) 28 L st c s) := propext (mv_R_iff (i := .getfield 52) (len := 3) (ax := [1053, 0, 5, 28]) (by decide +kernel))
theorem e178_28 : mr178 S P 28 L st sh M c s = (q_isI (q_gv L 3) ∧ mr178 S P 29 L (q_gv L 3 :: st) sh M c s) := (propext (mv_R_iff (i := .iload_n 3) (len := 1) (ax := []) (by decide +kernel))).trans (q_ldI_eq (K := fun st => mr178 S P 29 L st sh M c s))
theorem e178_29 {i : Int32} {a : Nat} : mr178 S P 29 L (.int i :: .ref a :: st) sh M c s = (mv_kld sh M a i (mr178 S P) 30 L st c s) := propext (mv_R_iff (i := .iaload) (len := 1) (ax := []) (by decide +kernel))
theorem e178_30 {v2 : Value} {v1 : Value} : mr178 S P 30 L (v2 :: v1 :: st) sh M c s = (mv_ss st ≤ 8 ∧ c ≤ 0 ∧ s ≤ 0 ∧ True ∧ mv_kal S 171 [v1, v2] sh M (mr178 S P) 33 L st c s) := (propext (mv_R_iff (i := .invokestatic 230) (len := 3) (ax := [3, 171, 2, 0, 0, 0, 0, 1319, 1320, 119, 1321]) (by decide +kernel))).trans (q_call3)
theorem e178_33 : mr178 S P 33 L st sh M c s = (q_isI (q_gv L 1) ∧ mr178 S P 34 L (q_gv L 1 :: st) sh M c s) := (propext (mv_R_iff (i := .iload_n 1) (len := 1) (ax := []) (by decide +kernel))).trans (q_ldI_eq (K := fun st => mr178 S P 34 L st sh M c s))
theorem e178_34 : mr178 S P 34 L st sh M c s = (q_isI (q_gv L 3) ∧ mr178 S P 35 L (q_gv L 3 :: st) sh M c s) := (propext (mv_R_iff (i := .iload_n 3) (len := 1) (ax := []) (by decide +kernel))).trans (q_ldI_eq (K := fun st => mr178 S P 35 L st sh M c s))
theorem e178_35 {v4 : Value} {v3 : Value} {v2 : Value} {v1 : Value} : mr178 S P 35 L (v4 :: v3 :: v2 :: v1 :: st) sh M c s = (mv_ss st ≤ 8 ∧ c ≤ 0 ∧ s ≤ 0 ∧ mv_isO sh (some v1) 5 ∧ mv_kal S 177 [v1, v2, v3, v4] sh M (mr178 S P) 38 L st c s) := (propext (mv_R_iff (i := .invokevirtual 233) (len := 3) (ax := [0, 177, 4, 5, 0, 0, 0, 1311, 1313, 98, 119, 1314]) (by decide +kernel))).trans (q_call0)
theorem e178_38 : mr178 S P 38 L st sh M c s = ((q_isI (q_gv L 3) ∧ q_hs L 3) ∧ mr178 S P 41 (L.set 3 (some (q_inc (q_gv L 3) (nI 1)))) st sh M c s) := (propext (mv_R_iff (i := .iinc 3 1) (len := 3) (ax := []) (by decide +kernel))).trans (q_inc_eq (K := fun L => mr178 S P 41 L st sh M c s))
theorem e178_41 : mr178 S P 41 L st sh M c s = (mr178 S P 2 L st sh M c s) := propext (mv_R_iff (i := .goto (-39)) (len := 3) (ax := [2]) (by decide +kernel))
theorem e178_44 : mr178 S P 44 L [] sh M c s = (P none sh M) := propext (mv_R_iff (i := .return_) (len := 1) (ax := []) (by decide +kernel))
-- 179: TurnedTabletsModel.goTo(II)I
def mk179 : mv_Cd := [
  (0, .iconst 0, 1, []),
  (1, .istore_n 3, 1, []),
  (2, .iload_n 3, 1, []),
  (3, .aload_n 0, 1, []),
  (4, .getfield 221, 3, [1057, 0, 5, 32]),
  (7, .if_icmp .ge 16, 3, [23]),
  (10, .aload_n 0, 1, []),
  (11, .getfield 68, 3, [1059, 0, 5, 34]),
  (14, .iload_n 3, 1, []),
  (15, .iconst (-1), 1, []),
  (16, .iastore, 1, []),
  (17, .iinc 3 1, 3, []),
  (20, .goto (-18), 3, [2]),
  (23, .aload_n 0, 1, []),
  (24, .iconst 0, 1, []),
  (25, .putfield 227, 3, [1061, 0, 5, 36, 0]),
  (28, .aload_n 0, 1, []),
  (29, .aload_n 0, 1, []),
  (30, .invokevirtual 237, 3, [0, 170, 1, 5, 0, 0, 0, 1307, 1309, 97, 119, 1310]),
  (33, .bipush (-4), 2, []),
  (35, .bipush 99, 2, []),
  (37, .invokevirtual 233, 3, [0, 177, 4, 5, 0, 0, 0, 1311, 1313, 98, 119, 1314]),
  (40, .iconst 0, 1, []),
  (41, .istore_n 3, 1, []),
  (42, .iload_n 3, 1, []),
  (43, .aload_n 0, 1, []),
  (44, .getfield 227, 3, [1061, 0, 5, 36]),
  (47, .if_icmp .ge 42, 3, [89]),
  (50, .aload_n 0, 1, []),
  (51, .getfield 55, 3, [1054, 0, 5, 29]),
  (54, .aload_n 0, 1, []),
  (55, .getfield 71, 3, [1060, 0, 5, 35]),
  (58, .iload_n 3, 1, []),
  (59, .iaload, 1, []),
  (60, .iaload, 1, []),
  (61, .iload_n 1, 1, []),
  (62, .if_icmp .ne 10, 3, [72]),
  (65, .aload_n 0, 1, []),
  (66, .getfield 71, 3, [1060, 0, 5, 35]),
  (69, .iload_n 3, 1, []),
  (70, .iaload, 1, []),
  (71, .ireturn, 1, [0]),
  (72, .aload_n 0, 1, []),
  (73, .aload_n 0, 1, []),
  (74, .getfield 71, 3, [1060, 0, 5, 35]),
  (77, .iload_n 3, 1, []),
  (78, .iaload, 1, []),
  (79, .iload_n 2, 1, []),
  (80, .invokevirtual 240, 3, [0, 178, 3, 5, 0, 0, 0, 1315, 1317, 99, 119, 1318]),
  (83, .iinc 3 1, 3, []),
  (86, .goto (-44), 3, [42]),
  (89, .bipush (-4), 2, []),
  (91, .ireturn, 1, [0])]
def mr179 (S : Nat → mv_Sp) (P : mv_Post) : mv_Kt := mv_R mv_DF mk179 S (0, 0) P
theorem e179_0 : mr179 S P 0 L st sh M c s = (mr179 S P 1 L (.int (nI 0) :: st) sh M c s) := propext (mv_R_iff (i := .iconst 0) (len := 1) (ax := []) (by decide +kernel))
theorem e179_1 {x : Int32} : mr179 S P 1 L (.int x :: st) sh M c s = (q_hs L 3 ∧ mr179 S P 2 (L.set 3 (some (.int x))) st sh M c s) := (propext (mv_R_iff (i := .istore_n 3) (len := 1) (ax := []) (by decide +kernel))).trans (q_st_eq (K := fun L => mr179 S P 2 L st sh M c s))
theorem e179_2 : mr179 S P 2 L st sh M c s = (q_isI (q_gv L 3) ∧ mr179 S P 3 L (q_gv L 3 :: st) sh M c s) := (propext (mv_R_iff (i := .iload_n 3) (len := 1) (ax := []) (by decide +kernel))).trans (q_ldI_eq (K := fun st => mr179 S P 3 L st sh M c s))
theorem e179_3 : mr179 S P 3 L st sh M c s = (q_isA (q_gv L 0) ∧ mr179 S P 4 L (q_gv L 0 :: st) sh M c s) := (propext (mv_R_iff (i := .aload_n 0) (len := 1) (ax := []) (by decide +kernel))).trans (q_ldA_eq (K := fun st => mr179 S P 4 L st sh M c s))
theorem e179_4 {a : Nat} : mr179 S P 4 L (.ref a :: st) sh M c s = (mv_kgf sh M a 5 32 (mr179 S P) 7 L st c s) := propext (mv_R_iff (i := .getfield 221) (len := 3) (ax := [1057, 0, 5, 32]) (by decide +kernel))
theorem e179_7 {y : Int32} {x : Int32} : mr179 S P 7 L (.int y :: .int x :: st) sh M c s = (if y ≤ x then mr179 S P 23 L st sh M c s else mr179 S P 10 L st sh M c s) := (propext (mv_R_iff (i := .if_icmp .ge 16) (len := 3) (ax := [23]) (by decide +kernel))).trans (q_br)
theorem e179_10 : mr179 S P 10 L st sh M c s = (q_isA (q_gv L 0) ∧ mr179 S P 11 L (q_gv L 0 :: st) sh M c s) := (propext (mv_R_iff (i := .aload_n 0) (len := 1) (ax := []) (by decide +kernel))).trans (q_ldA_eq (K := fun st => mr179 S P 11 L st sh M c s))
theorem e179_11 {a : Nat} : mr179 S P 11 L (.ref a :: st) sh M c s = (mv_kgf sh M a 5 34 (mr179 S P) 14 L st c s) := propext (mv_R_iff (i := .getfield 68) (len := 3) (ax := [1059, 0, 5, 34]) (by decide +kernel))
theorem e179_14 : mr179 S P 14 L st sh M c s = (q_isI (q_gv L 3) ∧ mr179 S P 15 L (q_gv L 3 :: st) sh M c s) := (propext (mv_R_iff (i := .iload_n 3) (len := 1) (ax := []) (by decide +kernel))).trans (q_ldI_eq (K := fun st => mr179 S P 15 L st sh M c s))
theorem e179_15 : mr179 S P 15 L st sh M c s = (mr179 S P 16 L (.int (Int32.ofInt (-1)) :: st) sh M c s) := propext (mv_R_iff (i := .iconst (-1)) (len := 1) (ax := []) (by decide +kernel))
theorem e179_16 {x : Int32} {i : Int32} {a : Nat} : mr179 S P 16 L (.int x :: .int i :: .ref a :: st) sh M c s = (mv_kst sh M a i x (mr179 S P) 17 L st c s) := propext (mv_R_iff (i := .iastore) (len := 1) (ax := []) (by decide +kernel))
theorem e179_17 : mr179 S P 17 L st sh M c s = ((q_isI (q_gv L 3) ∧ q_hs L 3) ∧ mr179 S P 20 (L.set 3 (some (q_inc (q_gv L 3) (nI 1)))) st sh M c s) := (propext (mv_R_iff (i := .iinc 3 1) (len := 3) (ax := []) (by decide +kernel))).trans (q_inc_eq (K := fun L => mr179 S P 20 L st sh M c s))
theorem e179_20 : mr179 S P 20 L st sh M c s = (mr179 S P 2 L st sh M c s) := propext (mv_R_iff (i := .goto (-18)) (len := 3) (ax := [2]) (by decide +kernel))
theorem e179_23 : mr179 S P 23 L st sh M c s = (q_isA (q_gv L 0) ∧ mr179 S P 24 L (q_gv L 0 :: st) sh M c s) := (propext (mv_R_iff (i := .aload_n 0) (len := 1) (ax := []) (by decide +kernel))).trans (q_ldA_eq (K := fun st => mr179 S P 24 L st sh M c s))
theorem e179_24 : mr179 S P 24 L st sh M c s = (mr179 S P 25 L (.int (nI 0) :: st) sh M c s) := propext (mv_R_iff (i := .iconst 0) (len := 1) (ax := []) (by decide +kernel))
theorem e179_25 {x : Int32} {a : Nat} : mr179 S P 25 L (.int x :: .ref a :: st) sh M c s = (True ∧ mv_kpf sh M a 5 36 x (mr179 S P) 28 L st c s) := propext (mv_R_iff (i := .putfield 227) (len := 3) (ax := [1061, 0, 5, 36, 0]) (by decide +kernel))
theorem e179_28 : mr179 S P 28 L st sh M c s = (q_isA (q_gv L 0) ∧ mr179 S P 29 L (q_gv L 0 :: st) sh M c s) := (propext (mv_R_iff (i := .aload_n 0) (len := 1) (ax := []) (by decide +kernel))).trans (q_ldA_eq (K := fun st => mr179 S P 29 L st sh M c s))
theorem e179_29 : mr179 S P 29 L st sh M c s = (q_isA (q_gv L 0) ∧ mr179 S P 30 L (q_gv L 0 :: st) sh M c s) := (propext (mv_R_iff (i := .aload_n 0) (len := 1) (ax := []) (by decide +kernel))).trans (q_ldA_eq (K := fun st => mr179 S P 30 L st sh M c s))
theorem e179_30 {v1 : Value} : mr179 S P 30 L (v1 :: st) sh M c s = (mv_ss st ≤ 8 ∧ c ≤ 0 ∧ s ≤ 0 ∧ mv_isO sh (some v1) 5 ∧ mv_kal S 170 [v1] sh M (mr179 S P) 33 L st c s) := (propext (mv_R_iff (i := .invokevirtual 237) (len := 3) (ax := [0, 170, 1, 5, 0, 0, 0, 1307, 1309, 97, 119, 1310]) (by decide +kernel))).trans (q_call0)
theorem e179_33 : mr179 S P 33 L st sh M c s = (mr179 S P 35 L (.int (Int32.ofInt (-4)) :: st) sh M c s) := (propext (mv_R_iff (i := .bipush (-4)) (len := 2) (ax := []) (by decide +kernel))).trans (congrArg (fun z => mr179 S P 35 L (.int z :: st) sh M c s) (by decide : (Int8.ofInt (-4)).toInt32 = Int32.ofInt (-4)))
theorem e179_35 : mr179 S P 35 L st sh M c s = (mr179 S P 37 L (.int (nI 99) :: st) sh M c s) := propext (mv_R_iff (i := .bipush 99) (len := 2) (ax := []) (by decide +kernel))
theorem e179_37 {v4 : Value} {v3 : Value} {v2 : Value} {v1 : Value} : mr179 S P 37 L (v4 :: v3 :: v2 :: v1 :: st) sh M c s = (mv_ss st ≤ 8 ∧ c ≤ 0 ∧ s ≤ 0 ∧ mv_isO sh (some v1) 5 ∧ mv_kal S 177 [v1, v2, v3, v4] sh M (mr179 S P) 40 L st c s) := (propext (mv_R_iff (i := .invokevirtual 233) (len := 3) (ax := [0, 177, 4, 5, 0, 0, 0, 1311, 1313, 98, 119, 1314]) (by decide +kernel))).trans (q_call0)
theorem e179_40 : mr179 S P 40 L st sh M c s = (mr179 S P 41 L (.int (nI 0) :: st) sh M c s) := propext (mv_R_iff (i := .iconst 0) (len := 1) (ax := []) (by decide +kernel))
theorem e179_41 {x : Int32} : mr179 S P 41 L (.int x :: st) sh M c s = (q_hs L 3 ∧ mr179 S P 42 (L.set 3 (some (.int x))) st sh M c s) := (propext (mv_R_iff (i := .istore_n 3) (len := 1) (ax := []) (by decide +kernel))).trans (q_st_eq (K := fun L => mr179 S P 42 L st sh M c s))
theorem e179_42 : mr179 S P 42 L st sh M c s = (q_isI (q_gv L 3) ∧ mr179 S P 43 L (q_gv L 3 :: st) sh M c s) := (propext (mv_R_iff (i := .iload_n 3) (len := 1) (ax := []) (by decide +kernel))).trans (q_ldI_eq (K := fun st => mr179 S P 43 L st sh M c s))
theorem e179_43 : mr179 S P 43 L st sh M c s = (q_isA (q_gv L 0) ∧ mr179 S P 44 L (q_gv L 0 :: st) sh M c s) := (propext (mv_R_iff (i := .aload_n 0) (len := 1) (ax := []) (by decide +kernel))).trans (q_ldA_eq (K := fun st => mr179 S P 44 L st sh M c s))
theorem e179_44 {a : Nat} : mr179 S P 44 L (.ref a :: st) sh M c s = (mv_kgf sh M a 5 36 (mr179 S P) 47 L st c s) := propext (mv_R_iff (i := .getfield 227) (len := 3) (ax := [1061, 0, 5, 36]) (by decide +kernel))
theorem e179_47 {y : Int32} {x : Int32} : mr179 S P 47 L (.int y :: .int x :: st) sh M c s = (if y ≤ x then mr179 S P 89 L st sh M c s else mr179 S P 50 L st sh M c s) := (propext (mv_R_iff (i := .if_icmp .ge 42) (len := 3) (ax := [89]) (by decide +kernel))).trans (q_br)
theorem e179_50 : mr179 S P 50 L st sh M c s = (q_isA (q_gv L 0) ∧ mr179 S P 51 L (q_gv L 0 :: st) sh M c s) := (propext (mv_R_iff (i := .aload_n 0) (len := 1) (ax := []) (by decide +kernel))).trans (q_ldA_eq (K := fun st => mr179 S P 51 L st sh M c s))
theorem e179_51 {a : Nat} : mr179 S P 51 L (.ref a :: st) sh M c s = (mv_kgf sh M a 5 29 (mr179 S P) 54 L st c s) := propext (mv_R_iff (i := .getfield 55) (len := 3) (ax := [1054, 0, 5, 29]) (by decide +kernel))
theorem e179_54 : mr179 S P 54 L st sh M c s = (q_isA (q_gv L 0) ∧ mr179 S P 55 L (q_gv L 0 :: st) sh M c s) := (propext (mv_R_iff (i := .aload_n 0) (len := 1) (ax := []) (by decide +kernel))).trans (q_ldA_eq (K := fun st => mr179 S P 55 L st sh M c s))
theorem e179_55 {a : Nat} : mr179 S P 55 L (.ref a :: st) sh M c s = (mv_kgf sh M a 5 35 (mr179 S P) 58 L st c s) := propext (mv_R_iff (i := .getfield 71) (len := 3) (ax := [1060, 0, 5, 35]) (by decide +kernel))
theorem e179_58 : mr179 S P 58 L st sh M c s = (q_isI (q_gv L 3) ∧ mr179 S P 59 L (q_gv L 3 :: st) sh M c s) := (propext (mv_R_iff (i := .iload_n 3) (len := 1) (ax := []) (by decide +kernel))).trans (q_ldI_eq (K := fun st => mr179 S P 59 L st sh M c s))
theorem e179_59 {i : Int32} {a : Nat} : mr179 S P 59 L (.int i :: .ref a :: st) sh M c s = (mv_kld sh M a i (mr179 S P) 60 L st c s) := propext (mv_R_iff (i := .iaload) (len := 1) (ax := []) (by decide +kernel))
theorem e179_60 {i : Int32} {a : Nat} : mr179 S P 60 L (.int i :: .ref a :: st) sh M c s = (mv_kld sh M a i (mr179 S P) 61 L st c s) := propext (mv_R_iff (i := .iaload) (len := 1) (ax := []) (by decide +kernel))
theorem e179_61 : mr179 S P 61 L st sh M c s = (q_isI (q_gv L 1) ∧ mr179 S P 62 L (q_gv L 1 :: st) sh M c s) := (propext (mv_R_iff (i := .iload_n 1) (len := 1) (ax := []) (by decide +kernel))).trans (q_ldI_eq (K := fun st => mr179 S P 62 L st sh M c s))
theorem e179_62 {y : Int32} {x : Int32} : mr179 S P 62 L (.int y :: .int x :: st) sh M c s = (if x = y then mr179 S P 65 L st sh M c s else mr179 S P 72 L st sh M c s) := (propext (mv_R_iff (i := .if_icmp .ne 10) (len := 3) (ax := [72]) (by decide +kernel))).trans (q_br')
theorem e179_65 : mr179 S P 65 L st sh M c s = (q_isA (q_gv L 0) ∧ mr179 S P 66 L (q_gv L 0 :: st) sh M c s) := (propext (mv_R_iff (i := .aload_n 0) (len := 1) (ax := []) (by decide +kernel))).trans (q_ldA_eq (K := fun st => mr179 S P 66 L st sh M c s))
theorem e179_66 {a : Nat} : mr179 S P 66 L (.ref a :: st) sh M c s = (mv_kgf sh M a 5 35 (mr179 S P) 69 L st c s) := propext (mv_R_iff (i := .getfield 71) (len := 3) (ax := [1060, 0, 5, 35]) (by decide +kernel))
theorem e179_69 : mr179 S P 69 L st sh M c s = (q_isI (q_gv L 3) ∧ mr179 S P 70 L (q_gv L 3 :: st) sh M c s) := (propext (mv_R_iff (i := .iload_n 3) (len := 1) (ax := []) (by decide +kernel))).trans (q_ldI_eq (K := fun st => mr179 S P 70 L st sh M c s))
theorem e179_70 {i : Int32} {a : Nat} : mr179 S P 70 L (.int i :: .ref a :: st) sh M c s = (mv_kld sh M a i (mr179 S P) 71 L st c s) := propext (mv_R_iff (i := .iaload) (len := 1) (ax := []) (by decide +kernel))
theorem e179_71 {x : Int32} : mr179 S P 71 L [.int x] sh M c s = (mv_nr 0 x ∧ P (some (.int x)) sh M) := propext (mv_R_iff (i := .ireturn) (len := 1) (ax := [0]) (by decide +kernel))
theorem e179_72 : mr179 S P 72 L st sh M c s = (q_isA (q_gv L 0) ∧ mr179 S P 73 L (q_gv L 0 :: st) sh M c s) := (propext (mv_R_iff (i := .aload_n 0) (len := 1) (ax := []) (by decide +kernel))).trans (q_ldA_eq (K := fun st => mr179 S P 73 L st sh M c s))
theorem e179_73 : mr179 S P 73 L st sh M c s = (q_isA (q_gv L 0) ∧ mr179 S P 74 L (q_gv L 0 :: st) sh M c s) := (propext (mv_R_iff (i := .aload_n 0) (len := 1) (ax := []) (by decide +kernel))).trans (q_ldA_eq (K := fun st => mr179 S P 74 L st sh M c s))
theorem e179_74 {a : Nat} : mr179 S P 74 L (.ref a :: st) sh M c s = (mv_kgf sh M a 5 35 (mr179 S P) 77 L st c s) := propext (mv_R_iff (i := .getfield 71) (len := 3) (ax := [1060, 0, 5, 35]) (by decide +kernel))
theorem e179_77 : mr179 S P 77 L st sh M c s = (q_isI (q_gv L 3) ∧ mr179 S P 78 L (q_gv L 3 :: st) sh M c s) := (propext (mv_R_iff (i := .iload_n 3) (len := 1) (ax := []) (by decide +kernel))).trans (q_ldI_eq (K := fun st => mr179 S P 78 L st sh M c s))
theorem e179_78 {i : Int32} {a : Nat} : mr179 S P 78 L (.int i :: .ref a :: st) sh M c s = (mv_kld sh M a i (mr179 S P) 79 L st c s) := propext (mv_R_iff (i := .iaload) (len := 1) (ax := []) (by decide +kernel))
theorem e179_79 : mr179 S P 79 L st sh M c s = (q_isI (q_gv L 2) ∧ mr179 S P 80 L (q_gv L 2 :: st) sh M c s) := (propext (mv_R_iff (i := .iload_n 2) (len := 1) (ax := []) (by decide +kernel))).trans (q_ldI_eq (K := fun st => mr179 S P 80 L st sh M c s))
theorem e179_80 {v3 : Value} {v2 : Value} {v1 : Value} : mr179 S P 80 L (v3 :: v2 :: v1 :: st) sh M c s = (mv_ss st ≤ 8 ∧ c ≤ 0 ∧ s ≤ 0 ∧ mv_isO sh (some v1) 5 ∧ mv_kal S 178 [v1, v2, v3] sh M (mr179 S P) 83 L st c s) := (propext (mv_R_iff (i := .invokevirtual 240) (len := 3) (ax := [0, 178, 3, 5, 0, 0, 0, 1315, 1317, 99, 119, 1318]) (by decide +kernel))).trans (q_call0)
theorem e179_83 : mr179 S P 83 L st sh M c s = ((q_isI (q_gv L 3) ∧ q_hs L 3) ∧ mr179 S P 86 (L.set 3 (some (q_inc (q_gv L 3) (nI 1)))) st sh M c s) := (propext (mv_R_iff (i := .iinc 3 1) (len := 3) (ax := []) (by decide +kernel))).trans (q_inc_eq (K := fun L => mr179 S P 86 L st sh M c s))
theorem e179_86 : mr179 S P 86 L st sh M c s = (mr179 S P 42 L st sh M c s) := propext (mv_R_iff (i := .goto (-44)) (len := 3) (ax := [42]) (by decide +kernel))
theorem e179_89 : mr179 S P 89 L st sh M c s = (mr179 S P 91 L (.int (Int32.ofInt (-4)) :: st) sh M c s) := (propext (mv_R_iff (i := .bipush (-4)) (len := 2) (ax := []) (by decide +kernel))).trans (congrArg (fun z => mr179 S P 91 L (.int z :: st) sh M c s) (by decide : (Int8.ofInt (-4)).toInt32 = Int32.ofInt (-4)))
theorem e179_91 {x : Int32} : mr179 S P 91 L [.int x] sh M c s = (mv_nr 0 x ∧ P (some (.int x)) sh M) := propext (mv_R_iff (i := .ireturn) (len := 1) (ax := [0]) (by decide +kernel))
-- 180: TurnedTabletsModel.can()I
def mk180 : mv_Cd := [
  (0, .aload_n 0, 1, []),
  (1, .invokevirtual 246, 3, [0, 169, 1, 5, 0, 0, 0, 1291, 1293, 93, 119, 1294]),
  (4, .aload_n 0, 1, []),
  (5, .iconst (-1), 1, []),
  (6, .aload_n 0, 1, []),
  (7, .invokevirtual 249, 3, [0, 176, 1, 5, 0, 0, 0, 1299, 1301, 95, 119, 1302]),
  (10, .invokevirtual 252, 3, [0, 179, 3, 5, 0, 0, 0, 1303, 1305, 96, 119, 1306]),
  (13, .pop, 1, []),
  (14, .iconst 0, 1, []),
  (15, .istore_n 1, 1, []),
  (16, .iload_n 1, 1, []),
  (17, .aload_n 0, 1, []),
  (18, .getfield 221, 3, [1057, 0, 5, 32]),
  (21, .if_icmp .ge 16, 3, [37]),
  (24, .aload_n 0, 1, []),
  (25, .getfield 61, 3, [1056, 0, 5, 31]),
  (28, .iload_n 1, 1, []),
  (29, .iconst 0, 1, []),
  (30, .bastore, 1, []),
  (31, .iinc 1 1, 3, []),
  (34, .goto (-18), 3, [16]),
  (37, .iconst 0, 1, []),
  (38, .istore_n 1, 1, []),
  (39, .iconst 0, 1, []),
  (40, .istore_n 2, 1, []),
  (41, .iload_n 2, 1, []),
  (42, .aload_n 0, 1, []),
  (43, .getfield 227, 3, [1061, 0, 5, 36]),
  (46, .if_icmp .ge 45, 3, [91]),
  (49, .aload_n 0, 1, []),
  (50, .getfield 58, 3, [1055, 0, 5, 30]),
  (53, .aload_n 0, 1, []),
  (54, .getfield 71, 3, [1060, 0, 5, 35]),
  (57, .iload_n 2, 1, []),
  (58, .iaload, 1, []),
  (59, .iaload, 1, []),
  (60, .istore_n 3, 1, []),
  (61, .iload_n 1, 1, []),
  (62, .aload_n 0, 1, []),
  (63, .getfield 61, 3, [1056, 0, 5, 31]),
  (66, .iload_n 3, 1, []),
  (67, .baload, 1, []),
  (68, .ifCond .eq 7, 3, [75]),
  (71, .iconst 0, 1, []),
  (72, .goto 4, 3, [76]),
  (75, .iconst 1, 1, []),
  (76, .iadd, 1, []),
  (77, .istore_n 1, 1, []),
  (78, .aload_n 0, 1, []),
  (79, .getfield 61, 3, [1056, 0, 5, 31]),
  (82, .iload_n 3, 1, []),
  (83, .iconst 1, 1, []),
  (84, .bastore, 1, []),
  (85, .iinc 2 1, 3, []),
  (88, .goto (-47), 3, [41]),
  (91, .iload_n 1, 1, []),
  (92, .ireturn, 1, [0])]
def mr180 (S : Nat → mv_Sp) (P : mv_Post) : mv_Kt := mv_R mv_DF mk180 S (0, 0) P
theorem e180_0 : mr180 S P 0 L st sh M c s = (q_isA (q_gv L 0) ∧ mr180 S P 1 L (q_gv L 0 :: st) sh M c s) := (propext (mv_R_iff (i := .aload_n 0) (len := 1) (ax := []) (by decide +kernel))).trans (q_ldA_eq (K := fun st => mr180 S P 1 L st sh M c s))
theorem e180_1 {v1 : Value} : mr180 S P 1 L (v1 :: st) sh M c s = (mv_ss st ≤ 8 ∧ c ≤ 0 ∧ s ≤ 0 ∧ mv_isO sh (some v1) 5 ∧ mv_kal S 169 [v1] sh M (mr180 S P) 4 L st c s) := (propext (mv_R_iff (i := .invokevirtual 246) (len := 3) (ax := [0, 169, 1, 5, 0, 0, 0, 1291, 1293, 93, 119, 1294]) (by decide +kernel))).trans (q_call0)
theorem e180_4 : mr180 S P 4 L st sh M c s = (q_isA (q_gv L 0) ∧ mr180 S P 5 L (q_gv L 0 :: st) sh M c s) := (propext (mv_R_iff (i := .aload_n 0) (len := 1) (ax := []) (by decide +kernel))).trans (q_ldA_eq (K := fun st => mr180 S P 5 L st sh M c s))
theorem e180_5 : mr180 S P 5 L st sh M c s = (mr180 S P 6 L (.int (Int32.ofInt (-1)) :: st) sh M c s) := propext (mv_R_iff (i := .iconst (-1)) (len := 1) (ax := []) (by decide +kernel))
theorem e180_6 : mr180 S P 6 L st sh M c s = (q_isA (q_gv L 0) ∧ mr180 S P 7 L (q_gv L 0 :: st) sh M c s) := (propext (mv_R_iff (i := .aload_n 0) (len := 1) (ax := []) (by decide +kernel))).trans (q_ldA_eq (K := fun st => mr180 S P 7 L st sh M c s))
theorem e180_7 {v1 : Value} : mr180 S P 7 L (v1 :: st) sh M c s = (mv_ss st ≤ 8 ∧ c ≤ 0 ∧ s ≤ 0 ∧ mv_isO sh (some v1) 5 ∧ mv_kal S 176 [v1] sh M (mr180 S P) 10 L st c s) := (propext (mv_R_iff (i := .invokevirtual 249) (len := 3) (ax := [0, 176, 1, 5, 0, 0, 0, 1299, 1301, 95, 119, 1302]) (by decide +kernel))).trans (q_call0)
theorem e180_10 {v3 : Value} {v2 : Value} {v1 : Value} : mr180 S P 10 L (v3 :: v2 :: v1 :: st) sh M c s = (mv_ss st ≤ 8 ∧ c ≤ 0 ∧ s ≤ 0 ∧ mv_isO sh (some v1) 5 ∧ mv_kal S 179 [v1, v2, v3] sh M (mr180 S P) 13 L st c s) := (propext (mv_R_iff (i := .invokevirtual 252) (len := 3) (ax := [0, 179, 3, 5, 0, 0, 0, 1303, 1305, 96, 119, 1306]) (by decide +kernel))).trans (q_call0)
theorem e180_13 {x : Int32} : mr180 S P 13 L (.int x :: st) sh M c s = (mr180 S P 14 L st sh M c s) := propext (mv_R_iff (i := .pop) (len := 1) (ax := []) (by decide +kernel))
theorem e180_13r {x : Nat} : mr180 S P 13 L (.ref x :: st) sh M c s = (mr180 S P 14 L st sh M c s) := propext (mv_R_iff (i := .pop) (len := 1) (ax := []) (by decide +kernel))
theorem e180_14 : mr180 S P 14 L st sh M c s = (mr180 S P 15 L (.int (nI 0) :: st) sh M c s) := propext (mv_R_iff (i := .iconst 0) (len := 1) (ax := []) (by decide +kernel))
theorem e180_15 {x : Int32} : mr180 S P 15 L (.int x :: st) sh M c s = (q_hs L 1 ∧ mr180 S P 16 (L.set 1 (some (.int x))) st sh M c s) := (propext (mv_R_iff (i := .istore_n 1) (len := 1) (ax := []) (by decide +kernel))).trans (q_st_eq (K := fun L => mr180 S P 16 L st sh M c s))
theorem e180_16 : mr180 S P 16 L st sh M c s = (q_isI (q_gv L 1) ∧ mr180 S P 17 L (q_gv L 1 :: st) sh M c s) := (propext (mv_R_iff (i := .iload_n 1) (len := 1) (ax := []) (by decide +kernel))).trans (q_ldI_eq (K := fun st => mr180 S P 17 L st sh M c s))
theorem e180_17 : mr180 S P 17 L st sh M c s = (q_isA (q_gv L 0) ∧ mr180 S P 18 L (q_gv L 0 :: st) sh M c s) := (propext (mv_R_iff (i := .aload_n 0) (len := 1) (ax := []) (by decide +kernel))).trans (q_ldA_eq (K := fun st => mr180 S P 18 L st sh M c s))
theorem e180_18 {a : Nat} : mr180 S P 18 L (.ref a :: st) sh M c s = (mv_kgf sh M a 5 32 (mr180 S P) 21 L st c s) := propext (mv_R_iff (i := .getfield 221) (len := 3) (ax := [1057, 0, 5, 32]) (by decide +kernel))
theorem e180_21 {y : Int32} {x : Int32} : mr180 S P 21 L (.int y :: .int x :: st) sh M c s = (if y ≤ x then mr180 S P 37 L st sh M c s else mr180 S P 24 L st sh M c s) := (propext (mv_R_iff (i := .if_icmp .ge 16) (len := 3) (ax := [37]) (by decide +kernel))).trans (q_br)
theorem e180_24 : mr180 S P 24 L st sh M c s = (q_isA (q_gv L 0) ∧ mr180 S P 25 L (q_gv L 0 :: st) sh M c s) := (propext (mv_R_iff (i := .aload_n 0) (len := 1) (ax := []) (by decide +kernel))).trans (q_ldA_eq (K := fun st => mr180 S P 25 L st sh M c s))
theorem e180_25 {a : Nat} : mr180 S P 25 L (.ref a :: st) sh M c s = (mv_kgf sh M a 5 31 (mr180 S P) 28 L st c s) := propext (mv_R_iff (i := .getfield 61) (len := 3) (ax := [1056, 0, 5, 31]) (by decide +kernel))
theorem e180_28 : mr180 S P 28 L st sh M c s = (q_isI (q_gv L 1) ∧ mr180 S P 29 L (q_gv L 1 :: st) sh M c s) := (propext (mv_R_iff (i := .iload_n 1) (len := 1) (ax := []) (by decide +kernel))).trans (q_ldI_eq (K := fun st => mr180 S P 29 L st sh M c s))
theorem e180_29 : mr180 S P 29 L st sh M c s = (mr180 S P 30 L (.int (nI 0) :: st) sh M c s) := propext (mv_R_iff (i := .iconst 0) (len := 1) (ax := []) (by decide +kernel))
theorem e180_30 {x : Int32} {i : Int32} {a : Nat} : mr180 S P 30 L (.int x :: .int i :: .ref a :: st) sh M c s = (mv_kbs sh M a i x (mr180 S P) 31 L st c s) := propext (mv_R_iff (i := .bastore) (len := 1) (ax := []) (by decide +kernel))
theorem e180_31 : mr180 S P 31 L st sh M c s = ((q_isI (q_gv L 1) ∧ q_hs L 1) ∧ mr180 S P 34 (L.set 1 (some (q_inc (q_gv L 1) (nI 1)))) st sh M c s) := (propext (mv_R_iff (i := .iinc 1 1) (len := 3) (ax := []) (by decide +kernel))).trans (q_inc_eq (K := fun L => mr180 S P 34 L st sh M c s))
theorem e180_34 : mr180 S P 34 L st sh M c s = (mr180 S P 16 L st sh M c s) := propext (mv_R_iff (i := .goto (-18)) (len := 3) (ax := [16]) (by decide +kernel))
theorem e180_37 : mr180 S P 37 L st sh M c s = (mr180 S P 38 L (.int (nI 0) :: st) sh M c s) := propext (mv_R_iff (i := .iconst 0) (len := 1) (ax := []) (by decide +kernel))
theorem e180_38 {x : Int32} : mr180 S P 38 L (.int x :: st) sh M c s = (q_hs L 1 ∧ mr180 S P 39 (L.set 1 (some (.int x))) st sh M c s) := (propext (mv_R_iff (i := .istore_n 1) (len := 1) (ax := []) (by decide +kernel))).trans (q_st_eq (K := fun L => mr180 S P 39 L st sh M c s))
theorem e180_39 : mr180 S P 39 L st sh M c s = (mr180 S P 40 L (.int (nI 0) :: st) sh M c s) := propext (mv_R_iff (i := .iconst 0) (len := 1) (ax := []) (by decide +kernel))
theorem e180_40 {x : Int32} : mr180 S P 40 L (.int x :: st) sh M c s = (q_hs L 2 ∧ mr180 S P 41 (L.set 2 (some (.int x))) st sh M c s) := (propext (mv_R_iff (i := .istore_n 2) (len := 1) (ax := []) (by decide +kernel))).trans (q_st_eq (K := fun L => mr180 S P 41 L st sh M c s))
theorem e180_41 : mr180 S P 41 L st sh M c s = (q_isI (q_gv L 2) ∧ mr180 S P 42 L (q_gv L 2 :: st) sh M c s) := (propext (mv_R_iff (i := .iload_n 2) (len := 1) (ax := []) (by decide +kernel))).trans (q_ldI_eq (K := fun st => mr180 S P 42 L st sh M c s))
theorem e180_42 : mr180 S P 42 L st sh M c s = (q_isA (q_gv L 0) ∧ mr180 S P 43 L (q_gv L 0 :: st) sh M c s) := (propext (mv_R_iff (i := .aload_n 0) (len := 1) (ax := []) (by decide +kernel))).trans (q_ldA_eq (K := fun st => mr180 S P 43 L st sh M c s))
theorem e180_43 {a : Nat} : mr180 S P 43 L (.ref a :: st) sh M c s = (mv_kgf sh M a 5 36 (mr180 S P) 46 L st c s) := propext (mv_R_iff (i := .getfield 227) (len := 3) (ax := [1061, 0, 5, 36]) (by decide +kernel))
theorem e180_46 {y : Int32} {x : Int32} : mr180 S P 46 L (.int y :: .int x :: st) sh M c s = (if y ≤ x then mr180 S P 91 L st sh M c s else mr180 S P 49 L st sh M c s) := (propext (mv_R_iff (i := .if_icmp .ge 45) (len := 3) (ax := [91]) (by decide +kernel))).trans (q_br)
theorem e180_49 : mr180 S P 49 L st sh M c s = (q_isA (q_gv L 0) ∧ mr180 S P 50 L (q_gv L 0 :: st) sh M c s) := (propext (mv_R_iff (i := .aload_n 0) (len := 1) (ax := []) (by decide +kernel))).trans (q_ldA_eq (K := fun st => mr180 S P 50 L st sh M c s))
theorem e180_50 {a : Nat} : mr180 S P 50 L (.ref a :: st) sh M c s = (mv_kgf sh M a 5 30 (mr180 S P) 53 L st c s) := propext (mv_R_iff (i := .getfield 58) (len := 3) (ax := [1055, 0, 5, 30]) (by decide +kernel))
theorem e180_53 : mr180 S P 53 L st sh M c s = (q_isA (q_gv L 0) ∧ mr180 S P 54 L (q_gv L 0 :: st) sh M c s) := (propext (mv_R_iff (i := .aload_n 0) (len := 1) (ax := []) (by decide +kernel))).trans (q_ldA_eq (K := fun st => mr180 S P 54 L st sh M c s))
theorem e180_54 {a : Nat} : mr180 S P 54 L (.ref a :: st) sh M c s = (mv_kgf sh M a 5 35 (mr180 S P) 57 L st c s) := propext (mv_R_iff (i := .getfield 71) (len := 3) (ax := [1060, 0, 5, 35]) (by decide +kernel))
theorem e180_57 : mr180 S P 57 L st sh M c s = (q_isI (q_gv L 2) ∧ mr180 S P 58 L (q_gv L 2 :: st) sh M c s) := (propext (mv_R_iff (i := .iload_n 2) (len := 1) (ax := []) (by decide +kernel))).trans (q_ldI_eq (K := fun st => mr180 S P 58 L st sh M c s))
theorem e180_58 {i : Int32} {a : Nat} : mr180 S P 58 L (.int i :: .ref a :: st) sh M c s = (mv_kld sh M a i (mr180 S P) 59 L st c s) := propext (mv_R_iff (i := .iaload) (len := 1) (ax := []) (by decide +kernel))
theorem e180_59 {i : Int32} {a : Nat} : mr180 S P 59 L (.int i :: .ref a :: st) sh M c s = (mv_kld sh M a i (mr180 S P) 60 L st c s) := propext (mv_R_iff (i := .iaload) (len := 1) (ax := []) (by decide +kernel))
theorem e180_60 {x : Int32} : mr180 S P 60 L (.int x :: st) sh M c s = (q_hs L 3 ∧ mr180 S P 61 (L.set 3 (some (.int x))) st sh M c s) := (propext (mv_R_iff (i := .istore_n 3) (len := 1) (ax := []) (by decide +kernel))).trans (q_st_eq (K := fun L => mr180 S P 61 L st sh M c s))
theorem e180_61 : mr180 S P 61 L st sh M c s = (q_isI (q_gv L 1) ∧ mr180 S P 62 L (q_gv L 1 :: st) sh M c s) := (propext (mv_R_iff (i := .iload_n 1) (len := 1) (ax := []) (by decide +kernel))).trans (q_ldI_eq (K := fun st => mr180 S P 62 L st sh M c s))
theorem e180_62 : mr180 S P 62 L st sh M c s = (q_isA (q_gv L 0) ∧ mr180 S P 63 L (q_gv L 0 :: st) sh M c s) := (propext (mv_R_iff (i := .aload_n 0) (len := 1) (ax := []) (by decide +kernel))).trans (q_ldA_eq (K := fun st => mr180 S P 63 L st sh M c s))
theorem e180_63 {a : Nat} : mr180 S P 63 L (.ref a :: st) sh M c s = (mv_kgf sh M a 5 31 (mr180 S P) 66 L st c s) := propext (mv_R_iff (i := .getfield 61) (len := 3) (ax := [1056, 0, 5, 31]) (by decide +kernel))
theorem e180_66 : mr180 S P 66 L st sh M c s = (q_isI (q_gv L 3) ∧ mr180 S P 67 L (q_gv L 3 :: st) sh M c s) := (propext (mv_R_iff (i := .iload_n 3) (len := 1) (ax := []) (by decide +kernel))).trans (q_ldI_eq (K := fun st => mr180 S P 67 L st sh M c s))
theorem e180_67 {i : Int32} {a : Nat} : mr180 S P 67 L (.int i :: .ref a :: st) sh M c s = (mv_kbl sh M a i (mr180 S P) 68 L st c s) := propext (mv_R_iff (i := .baload) (len := 1) (ax := []) (by decide +kernel))
theorem e180_68 {x : Int32} : mr180 S P 68 L (.int x :: st) sh M c s = (if x = nI 0 then mr180 S P 75 L st sh M c s else mr180 S P 71 L st sh M c s) := (propext (mv_R_iff (i := .ifCond .eq 7) (len := 3) (ax := [75]) (by decide +kernel))).trans (q_br)
theorem e180_71 : mr180 S P 71 L st sh M c s = (mr180 S P 72 L (.int (nI 0) :: st) sh M c s) := propext (mv_R_iff (i := .iconst 0) (len := 1) (ax := []) (by decide +kernel))
theorem e180_72 : mr180 S P 72 L st sh M c s = (mr180 S P 76 L st sh M c s) := propext (mv_R_iff (i := .goto 4) (len := 3) (ax := [76]) (by decide +kernel))
theorem e180_75 : mr180 S P 75 L st sh M c s = (mr180 S P 76 L (.int (nI 1) :: st) sh M c s) := propext (mv_R_iff (i := .iconst 1) (len := 1) (ax := []) (by decide +kernel))
theorem e180_76 {y : Int32} {x : Int32} : mr180 S P 76 L (.int y :: .int x :: st) sh M c s = (mr180 S P 77 L (.int (x + y) :: st) sh M c s) := propext (mv_R_iff (i := .iadd) (len := 1) (ax := []) (by decide +kernel))
theorem e180_77 {x : Int32} : mr180 S P 77 L (.int x :: st) sh M c s = (q_hs L 1 ∧ mr180 S P 78 (L.set 1 (some (.int x))) st sh M c s) := (propext (mv_R_iff (i := .istore_n 1) (len := 1) (ax := []) (by decide +kernel))).trans (q_st_eq (K := fun L => mr180 S P 78 L st sh M c s))
theorem e180_78 : mr180 S P 78 L st sh M c s = (q_isA (q_gv L 0) ∧ mr180 S P 79 L (q_gv L 0 :: st) sh M c s) := (propext (mv_R_iff (i := .aload_n 0) (len := 1) (ax := []) (by decide +kernel))).trans (q_ldA_eq (K := fun st => mr180 S P 79 L st sh M c s))
theorem e180_79 {a : Nat} : mr180 S P 79 L (.ref a :: st) sh M c s = (mv_kgf sh M a 5 31 (mr180 S P) 82 L st c s) := propext (mv_R_iff (i := .getfield 61) (len := 3) (ax := [1056, 0, 5, 31]) (by decide +kernel))
theorem e180_82 : mr180 S P 82 L st sh M c s = (q_isI (q_gv L 3) ∧ mr180 S P 83 L (q_gv L 3 :: st) sh M c s) := (propext (mv_R_iff (i := .iload_n 3) (len := 1) (ax := []) (by decide +kernel))).trans (q_ldI_eq (K := fun st => mr180 S P 83 L st sh M c s))
theorem e180_83 : mr180 S P 83 L st sh M c s = (mr180 S P 84 L (.int (nI 1) :: st) sh M c s) := propext (mv_R_iff (i := .iconst 1) (len := 1) (ax := []) (by decide +kernel))
theorem e180_84 {x : Int32} {i : Int32} {a : Nat} : mr180 S P 84 L (.int x :: .int i :: .ref a :: st) sh M c s = (mv_kbs sh M a i x (mr180 S P) 85 L st c s) := propext (mv_R_iff (i := .bastore) (len := 1) (ax := []) (by decide +kernel))
theorem e180_85 : mr180 S P 85 L st sh M c s = ((q_isI (q_gv L 2) ∧ q_hs L 2) ∧ mr180 S P 88 (L.set 2 (some (q_inc (q_gv L 2) (nI 1)))) st sh M c s) := (propext (mv_R_iff (i := .iinc 2 1) (len := 3) (ax := []) (by decide +kernel))).trans (q_inc_eq (K := fun L => mr180 S P 88 L st sh M c s))
theorem e180_88 : mr180 S P 88 L st sh M c s = (mr180 S P 41 L st sh M c s) := propext (mv_R_iff (i := .goto (-47)) (len := 3) (ax := [41]) (by decide +kernel))
theorem e180_91 : mr180 S P 91 L st sh M c s = (q_isI (q_gv L 1) ∧ mr180 S P 92 L (q_gv L 1 :: st) sh M c s) := (propext (mv_R_iff (i := .iload_n 1) (len := 1) (ax := []) (by decide +kernel))).trans (q_ldI_eq (K := fun st => mr180 S P 92 L st sh M c s))
theorem e180_92 {x : Int32} : mr180 S P 92 L [.int x] sh M c s = (mv_nr 0 x ∧ P (some (.int x)) sh M) := propext (mv_R_iff (i := .ireturn) (len := 1) (ax := [0]) (by decide +kernel))
-- 181: TurnedTabletsModel.isTablet(I)Z
def mk181 : mv_Cd := [
  (0, .iload_n 1, 1, []),
  (1, .i2l, 1, []),
  (2, .lconst 0, 1, []),
  (3, .aload_n 0, 1, []),
  (4, .getfield 151, 3, [1028, 0, 5, 3]),
  (7, .iconst 1, 1, []),
  (8, .isub, 1, []),
  (9, .i2l, 1, []),
  (10, .invokestatic 92, 3, [3, 144, 3, 0, 0, 0, 0, 1007, 1008, 119, 1009]),
  (13, .ireturn, 1, [1])]
def mr181 (S : Nat → mv_Sp) (P : mv_Post) : mv_Kt := mv_R mv_DF mk181 S (0, 0) P
theorem e181_0 : mr181 S P 0 L st sh M c s = (q_isI (q_gv L 1) ∧ mr181 S P 1 L (q_gv L 1 :: st) sh M c s) := (propext (mv_R_iff (i := .iload_n 1) (len := 1) (ax := []) (by decide +kernel))).trans (q_ldI_eq (K := fun st => mr181 S P 1 L st sh M c s))
theorem e181_1 {x : Int32} : mr181 S P 1 L (.int x :: st) sh M c s = (mr181 S P 2 L (.long x.toInt64 :: st) sh M c s) := propext (mv_R_iff (i := .i2l) (len := 1) (ax := []) (by decide +kernel))
theorem e181_2 : mr181 S P 2 L st sh M c s = (mr181 S P 3 L (.long (lN 0) :: st) sh M c s) := propext (mv_R_iff (i := .lconst 0) (len := 1) (ax := []) (by decide +kernel))
theorem e181_3 : mr181 S P 3 L st sh M c s = (q_isA (q_gv L 0) ∧ mr181 S P 4 L (q_gv L 0 :: st) sh M c s) := (propext (mv_R_iff (i := .aload_n 0) (len := 1) (ax := []) (by decide +kernel))).trans (q_ldA_eq (K := fun st => mr181 S P 4 L st sh M c s))
theorem e181_4 {a : Nat} : mr181 S P 4 L (.ref a :: st) sh M c s = (mv_kgf sh M a 5 3 (mr181 S P) 7 L st c s) := propext (mv_R_iff (i := .getfield 151) (len := 3) (ax := [1028, 0, 5, 3]) (by decide +kernel))
theorem e181_7 : mr181 S P 7 L st sh M c s = (mr181 S P 8 L (.int (nI 1) :: st) sh M c s) := propext (mv_R_iff (i := .iconst 1) (len := 1) (ax := []) (by decide +kernel))
theorem e181_8 {y : Int32} {x : Int32} : mr181 S P 8 L (.int y :: .int x :: st) sh M c s = (mr181 S P 9 L (.int (x - y) :: st) sh M c s) := propext (mv_R_iff (i := .isub) (len := 1) (ax := []) (by decide +kernel))
theorem e181_9 {x : Int32} : mr181 S P 9 L (.int x :: st) sh M c s = (mr181 S P 10 L (.long x.toInt64 :: st) sh M c s) := propext (mv_R_iff (i := .i2l) (len := 1) (ax := []) (by decide +kernel))
theorem e181_10 {v3 : Value} {v2 : Value} {v1 : Value} : mr181 S P 10 L (v3 :: v2 :: v1 :: st) sh M c s = (mv_ss st ≤ 8 ∧ c ≤ 0 ∧ s ≤ 0 ∧ True ∧ mv_kal S 144 [v1, v2, v3] sh M (mr181 S P) 13 L st c s) := (propext (mv_R_iff (i := .invokestatic 92) (len := 3) (ax := [3, 144, 3, 0, 0, 0, 0, 1007, 1008, 119, 1009]) (by decide +kernel))).trans (q_call3)
theorem e181_13 {x : Int32} : mr181 S P 13 L [.int x] sh M c s = (mv_nr 1 x ∧ P (some (.int x)) sh M) := propext (mv_R_iff (i := .ireturn) (len := 1) (ax := [1]) (by decide +kernel))
-- 182: TurnedTabletsModel.comb(I)I
def mk182 : mv_Cd := [
  (0, .aload_n 0, 1, []),
  (1, .iload_n 1, 1, []),
  (2, .invokevirtual 197, 3, [0, 181, 2, 5, 0, 0, 0, 1163, 1165, 79, 119, 1166]),
  (5, .ifCond .ne 5, 3, [10]),
  (8, .iconst (-1), 1, []),
  (9, .ireturn, 1, [0]),
  (10, .aload_n 0, 1, []),
  (11, .invokevirtual 212, 3, [0, 157, 1, 5, 0, 0, 0, 1211, 1213, 84, 119, 1214]),
  (14, .aload_n 0, 1, []),
  (15, .getfield 7, 3, [1025, 0, 5, 0]),
  (18, .bipush 12, 2, []),
  (20, .iload_n 1, 1, []),
  (21, .iadd, 1, []),
  (22, .iaload, 1, []),
  (23, .istore_n 2, 1, []),
  (24, .aload_n 0, 1, []),
  (25, .getfield 7, 3, [1025, 0, 5, 0]),
  (28, .bipush 12, 2, []),
  (30, .iload_n 1, 1, []),
  (31, .iadd, 1, []),
  (32, .iconst 0, 1, []),
  (33, .iastore, 1, []),
  (34, .iload_n 2, 1, []),
  (35, .bipush 40, 2, []),
  (37, .iadd, 1, []),
  (38, .ireturn, 1, [0])]
def mr182 (S : Nat → mv_Sp) (P : mv_Post) : mv_Kt := mv_R mv_DF mk182 S (0, 0) P
theorem e182_0 : mr182 S P 0 L st sh M c s = (q_isA (q_gv L 0) ∧ mr182 S P 1 L (q_gv L 0 :: st) sh M c s) := (propext (mv_R_iff (i := .aload_n 0) (len := 1) (ax := []) (by decide +kernel))).trans (q_ldA_eq (K := fun st => mr182 S P 1 L st sh M c s))
theorem e182_1 : mr182 S P 1 L st sh M c s = (q_isI (q_gv L 1) ∧ mr182 S P 2 L (q_gv L 1 :: st) sh M c s) := (propext (mv_R_iff (i := .iload_n 1) (len := 1) (ax := []) (by decide +kernel))).trans (q_ldI_eq (K := fun st => mr182 S P 2 L st sh M c s))
theorem e182_2 {v2 : Value} {v1 : Value} : mr182 S P 2 L (v2 :: v1 :: st) sh M c s = (mv_ss st ≤ 8 ∧ c ≤ 0 ∧ s ≤ 0 ∧ mv_isO sh (some v1) 5 ∧ mv_kal S 181 [v1, v2] sh M (mr182 S P) 5 L st c s) := (propext (mv_R_iff (i := .invokevirtual 197) (len := 3) (ax := [0, 181, 2, 5, 0, 0, 0, 1163, 1165, 79, 119, 1166]) (by decide +kernel))).trans (q_call0)
theorem e182_5 {x : Int32} : mr182 S P 5 L (.int x :: st) sh M c s = (if x = nI 0 then mr182 S P 8 L st sh M c s else mr182 S P 10 L st sh M c s) := (propext (mv_R_iff (i := .ifCond .ne 5) (len := 3) (ax := [10]) (by decide +kernel))).trans (q_br')
theorem e182_8 : mr182 S P 8 L st sh M c s = (mr182 S P 9 L (.int (Int32.ofInt (-1)) :: st) sh M c s) := propext (mv_R_iff (i := .iconst (-1)) (len := 1) (ax := []) (by decide +kernel))
theorem e182_9 {x : Int32} : mr182 S P 9 L [.int x] sh M c s = (mv_nr 0 x ∧ P (some (.int x)) sh M) := propext (mv_R_iff (i := .ireturn) (len := 1) (ax := [0]) (by decide +kernel))
theorem e182_10 : mr182 S P 10 L st sh M c s = (q_isA (q_gv L 0) ∧ mr182 S P 11 L (q_gv L 0 :: st) sh M c s) := (propext (mv_R_iff (i := .aload_n 0) (len := 1) (ax := []) (by decide +kernel))).trans (q_ldA_eq (K := fun st => mr182 S P 11 L st sh M c s))
theorem e182_11 {v1 : Value} : mr182 S P 11 L (v1 :: st) sh M c s = (mv_ss st ≤ 8 ∧ c ≤ 0 ∧ s ≤ 0 ∧ mv_isO sh (some v1) 5 ∧ mv_kal S 157 [v1] sh M (mr182 S P) 14 L st c s) := (propext (mv_R_iff (i := .invokevirtual 212) (len := 3) (ax := [0, 157, 1, 5, 0, 0, 0, 1211, 1213, 84, 119, 1214]) (by decide +kernel))).trans (q_call0)
theorem e182_14 : mr182 S P 14 L st sh M c s = (q_isA (q_gv L 0) ∧ mr182 S P 15 L (q_gv L 0 :: st) sh M c s) := (propext (mv_R_iff (i := .aload_n 0) (len := 1) (ax := []) (by decide +kernel))).trans (q_ldA_eq (K := fun st => mr182 S P 15 L st sh M c s))
theorem e182_15 {a : Nat} : mr182 S P 15 L (.ref a :: st) sh M c s = (mv_kgf sh M a 5 0 (mr182 S P) 18 L st c s) := propext (mv_R_iff (i := .getfield 7) (len := 3) (ax := [1025, 0, 5, 0]) (by decide +kernel))
theorem e182_18 : mr182 S P 18 L st sh M c s = (mr182 S P 20 L (.int (nI 12) :: st) sh M c s) := propext (mv_R_iff (i := .bipush 12) (len := 2) (ax := []) (by decide +kernel))
theorem e182_20 : mr182 S P 20 L st sh M c s = (q_isI (q_gv L 1) ∧ mr182 S P 21 L (q_gv L 1 :: st) sh M c s) := (propext (mv_R_iff (i := .iload_n 1) (len := 1) (ax := []) (by decide +kernel))).trans (q_ldI_eq (K := fun st => mr182 S P 21 L st sh M c s))
theorem e182_21 {y : Int32} {x : Int32} : mr182 S P 21 L (.int y :: .int x :: st) sh M c s = (mr182 S P 22 L (.int (x + y) :: st) sh M c s) := propext (mv_R_iff (i := .iadd) (len := 1) (ax := []) (by decide +kernel))
theorem e182_22 {i : Int32} {a : Nat} : mr182 S P 22 L (.int i :: .ref a :: st) sh M c s = (mv_kld sh M a i (mr182 S P) 23 L st c s) := propext (mv_R_iff (i := .iaload) (len := 1) (ax := []) (by decide +kernel))
theorem e182_23 {x : Int32} : mr182 S P 23 L (.int x :: st) sh M c s = (q_hs L 2 ∧ mr182 S P 24 (L.set 2 (some (.int x))) st sh M c s) := (propext (mv_R_iff (i := .istore_n 2) (len := 1) (ax := []) (by decide +kernel))).trans (q_st_eq (K := fun L => mr182 S P 24 L st sh M c s))
theorem e182_24 : mr182 S P 24 L st sh M c s = (q_isA (q_gv L 0) ∧ mr182 S P 25 L (q_gv L 0 :: st) sh M c s) := (propext (mv_R_iff (i := .aload_n 0) (len := 1) (ax := []) (by decide +kernel))).trans (q_ldA_eq (K := fun st => mr182 S P 25 L st sh M c s))
theorem e182_25 {a : Nat} : mr182 S P 25 L (.ref a :: st) sh M c s = (mv_kgf sh M a 5 0 (mr182 S P) 28 L st c s) := propext (mv_R_iff (i := .getfield 7) (len := 3) (ax := [1025, 0, 5, 0]) (by decide +kernel))
theorem e182_28 : mr182 S P 28 L st sh M c s = (mr182 S P 30 L (.int (nI 12) :: st) sh M c s) := propext (mv_R_iff (i := .bipush 12) (len := 2) (ax := []) (by decide +kernel))
theorem e182_30 : mr182 S P 30 L st sh M c s = (q_isI (q_gv L 1) ∧ mr182 S P 31 L (q_gv L 1 :: st) sh M c s) := (propext (mv_R_iff (i := .iload_n 1) (len := 1) (ax := []) (by decide +kernel))).trans (q_ldI_eq (K := fun st => mr182 S P 31 L st sh M c s))
theorem e182_31 {y : Int32} {x : Int32} : mr182 S P 31 L (.int y :: .int x :: st) sh M c s = (mr182 S P 32 L (.int (x + y) :: st) sh M c s) := propext (mv_R_iff (i := .iadd) (len := 1) (ax := []) (by decide +kernel))
theorem e182_32 : mr182 S P 32 L st sh M c s = (mr182 S P 33 L (.int (nI 0) :: st) sh M c s) := propext (mv_R_iff (i := .iconst 0) (len := 1) (ax := []) (by decide +kernel))
theorem e182_33 {x : Int32} {i : Int32} {a : Nat} : mr182 S P 33 L (.int x :: .int i :: .ref a :: st) sh M c s = (mv_kst sh M a i x (mr182 S P) 34 L st c s) := propext (mv_R_iff (i := .iastore) (len := 1) (ax := []) (by decide +kernel))
theorem e182_34 : mr182 S P 34 L st sh M c s = (q_isI (q_gv L 2) ∧ mr182 S P 35 L (q_gv L 2 :: st) sh M c s) := (propext (mv_R_iff (i := .iload_n 2) (len := 1) (ax := []) (by decide +kernel))).trans (q_ldI_eq (K := fun st => mr182 S P 35 L st sh M c s))
theorem e182_35 : mr182 S P 35 L st sh M c s = (mr182 S P 37 L (.int (nI 40) :: st) sh M c s) := propext (mv_R_iff (i := .bipush 40) (len := 2) (ax := []) (by decide +kernel))
theorem e182_37 {y : Int32} {x : Int32} : mr182 S P 37 L (.int y :: .int x :: st) sh M c s = (mr182 S P 38 L (.int (x + y) :: st) sh M c s) := propext (mv_R_iff (i := .iadd) (len := 1) (ax := []) (by decide +kernel))
theorem e182_38 {x : Int32} : mr182 S P 38 L [.int x] sh M c s = (mv_nr 0 x ∧ P (some (.int x)) sh M) := propext (mv_R_iff (i := .ireturn) (len := 1) (ax := [0]) (by decide +kernel))
end CD
