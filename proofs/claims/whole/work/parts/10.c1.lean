/-! code lists and step rows, written by program -/
section CD
variable {S : Nat → mv_Sp} {P : mv_Post} {L : mv_Loc} {st : List Value} {sh : mv_Shp} {M : mv_Mem} {c s : Nat}
-- 18: Loom.clear()V
def mk18 : mv_Cd := [
  (0, .aload_n 0, 1, []),
  (1, .iconst 0, 1, []),
  (2, .putfield 30, 3, [167, 0, 1, 0, 0]),
  (5, .aload_n 0, 1, []),
  (6, .iconst 0, 1, []),
  (7, .putfield 34, 3, [173, 0, 1, 1, 0]),
  (10, .aload_n 0, 1, []),
  (11, .iconst 0, 1, []),
  (12, .putfield 37, 3, [176, 0, 1, 2, 0]),
  (15, .aload_n 0, 1, []),
  (16, .bipush 20, 2, []),
  (18, .putfield 40, 3, [179, 0, 1, 3, 0]),
  (21, .return_, 1, [])]
def mr18 (S : Nat → mv_Sp) (P : mv_Post) : mv_Kt := mv_R mv_DF mk18 S (0, 0) P
theorem e18_0 : mr18 S P 0 L st sh M c s = (q_isA (q_gv L 0) ∧ mr18 S P 1 L (q_gv L 0 :: st) sh M c s) := (propext (mv_R_iff (i := .aload_n 0) (len := 1) (ax := []) (by decide +kernel))).trans (q_ldA_eq (K := fun st => mr18 S P 1 L st sh M c s))
theorem e18_1 : mr18 S P 1 L st sh M c s = (mr18 S P 2 L (.int (nI 0) :: st) sh M c s) := propext (mv_R_iff (i := .iconst 0) (len := 1) (ax := []) (by decide +kernel))
theorem e18_2 {x : Int32} {a : Nat} : mr18 S P 2 L (.int x :: .ref a :: st) sh M c s = (True ∧ mv_kpf sh M a 1 0 x (mr18 S P) 5 L st c s) := propext (mv_R_iff (i := .putfield 30) (len := 3) (ax := [167, 0, 1, 0, 0]) (by decide +kernel))
theorem e18_5 : mr18 S P 5 L st sh M c s = (q_isA (q_gv L 0) ∧ mr18 S P 6 L (q_gv L 0 :: st) sh M c s) := (propext (mv_R_iff (i := .aload_n 0) (len := 1) (ax := []) (by decide +kernel))).trans (q_ldA_eq (K := fun st => mr18 S P 6 L st sh M c s))
theorem e18_6 : mr18 S P 6 L st sh M c s = (mr18 S P 7 L (.int (nI 0) :: st) sh M c s) := propext (mv_R_iff (i := .iconst 0) (len := 1) (ax := []) (by decide +kernel))
theorem e18_7 {x : Int32} {a : Nat} : mr18 S P 7 L (.int x :: .ref a :: st) sh M c s = (True ∧ mv_kpf sh M a 1 1 x (mr18 S P) 10 L st c s) := propext (mv_R_iff (i := .putfield 34) (len := 3) (ax := [173, 0, 1, 1, 0]) (by decide +kernel))
theorem e18_10 : mr18 S P 10 L st sh M c s = (q_isA (q_gv L 0) ∧ mr18 S P 11 L (q_gv L 0 :: st) sh M c s) := (propext (mv_R_iff (i := .aload_n 0) (len := 1) (ax := []) (by decide +kernel))).trans (q_ldA_eq (K := fun st => mr18 S P 11 L st sh M c s))
theorem e18_11 : mr18 S P 11 L st sh M c s = (mr18 S P 12 L (.int (nI 0) :: st) sh M c s) := propext (mv_R_iff (i := .iconst 0) (len := 1) (ax := []) (by decide +kernel))
theorem e18_12 {x : Int32} {a : Nat} : mr18 S P 12 L (.int x :: .ref a :: st) sh M c s = (True ∧ mv_kpf sh M a 1 2 x (mr18 S P) 15 L st c s) := propext (mv_R_iff (i := .putfield 37) (len := 3) (ax := [176, 0, 1, 2, 0]) (by decide +kernel))
theorem e18_15 : mr18 S P 15 L st sh M c s = (q_isA (q_gv L 0) ∧ mr18 S P 16 L (q_gv L 0 :: st) sh M c s) := (propext (mv_R_iff (i := .aload_n 0) (len := 1) (ax := []) (by decide +kernel))).trans (q_ldA_eq (K := fun st => mr18 S P 16 L st sh M c s))
theorem e18_16 : mr18 S P 16 L st sh M c s = (mr18 S P 18 L (.int (nI 20) :: st) sh M c s) := propext (mv_R_iff (i := .bipush 20) (len := 2) (ax := []) (by decide +kernel))
theorem e18_18 {x : Int32} {a : Nat} : mr18 S P 18 L (.int x :: .ref a :: st) sh M c s = (True ∧ mv_kpf sh M a 1 3 x (mr18 S P) 21 L st c s) := propext (mv_R_iff (i := .putfield 40) (len := 3) (ax := [179, 0, 1, 3, 0]) (by decide +kernel))
theorem e18_21 : mr18 S P 21 L [] sh M c s = (P none sh M) := propext (mv_R_iff (i := .return_) (len := 1) (ax := []) (by decide +kernel))
-- 19: AbstractStringBuilder.length()I
def mk19 : mv_Cd := [
  (0, .aload_n 0, 1, []),
  (1, .getfield 79, 3, [150, 0, 6, 3]),
  (4, .ireturn, 1, [0])]
def mr19 (S : Nat → mv_Sp) (P : mv_Post) : mv_Kt := mv_R mv_DF mk19 S (0, 0) P
theorem e19_0 : mr19 S P 0 L st sh M c s = (q_isA (q_gv L 0) ∧ mr19 S P 1 L (q_gv L 0 :: st) sh M c s) := (propext (mv_R_iff (i := .aload_n 0) (len := 1) (ax := []) (by decide +kernel))).trans (q_ldA_eq (K := fun st => mr19 S P 1 L st sh M c s))
theorem e19_1 {a : Nat} : mr19 S P 1 L (.ref a :: st) sh M c s = (mv_kgf sh M a 6 3 (mr19 S P) 4 L st c s) := propext (mv_R_iff (i := .getfield 79) (len := 3) (ax := [150, 0, 6, 3]) (by decide +kernel))
theorem e19_4 {x : Int32} : mr19 S P 4 L [.int x] sh M c s = (mv_nr 0 x ∧ P (some (.int x)) sh M) := propext (mv_R_iff (i := .ireturn) (len := 1) (ax := [0]) (by decide +kernel))
-- 20: StringBuilder.length()I
def mk20 : mv_Cd := [
  (0, .aload_n 0, 1, []),
  (1, .invokespecial 343, 3, [2, 19, 1, 6, 0, 0, 0, 404, 1398, 159, 405, 105, 406]),
  (4, .ireturn, 1, [0])]
def mr20 (S : Nat → mv_Sp) (P : mv_Post) : mv_Kt := mv_R mv_DF mk20 S (0, 0) P
theorem e20_0 : mr20 S P 0 L st sh M c s = (q_isA (q_gv L 0) ∧ mr20 S P 1 L (q_gv L 0 :: st) sh M c s) := (propext (mv_R_iff (i := .aload_n 0) (len := 1) (ax := []) (by decide +kernel))).trans (q_ldA_eq (K := fun st => mr20 S P 1 L st sh M c s))
theorem e20_1 {v1 : Value} : mr20 S P 1 L (v1 :: st) sh M c s = (mv_ss st ≤ 8 ∧ c ≤ 0 ∧ s ≤ 0 ∧ mv_isO sh (some v1) 6 ∧ mv_kal S 19 [v1] sh M (mr20 S P) 4 L st c s) := (propext (mv_R_iff (i := .invokespecial 343) (len := 3) (ax := [2, 19, 1, 6, 0, 0, 0, 404, 1398, 159, 405, 105, 406]) (by decide +kernel))).trans (q_call2)
theorem e20_4 {x : Int32} : mr20 S P 4 L [.int x] sh M c s = (mv_nr 0 x ∧ P (some (.int x)) sh M) := propext (mv_R_iff (i := .ireturn) (len := 1) (ax := [0]) (by decide +kernel))
-- 29: Loom.colour(II)I
def mk29 : mv_Cd := [
  (0, .iload_n 1, 1, []),
  (1, .ifCond .lt 31, 3, [32]),
  (4, .iload_n 1, 1, []),
  (5, .bipush 6, 2, []),
  (7, .if_icmp .ge 25, 3, [32]),
  (10, .iload_n 2, 1, []),
  (11, .ifCond .lt 21, 3, [32]),
  (14, .iload_n 2, 1, []),
  (15, .iconst 4, 1, []),
  (16, .if_icmp .ge 16, 3, [32]),
  (19, .aload_n 0, 1, []),
  (20, .getfield 18, 3, [185, 0, 1, 6]),
  (23, .iload_n 1, 1, []),
  (24, .iconst 4, 1, []),
  (25, .imul, 1, []),
  (26, .iload_n 2, 1, []),
  (27, .iadd, 1, []),
  (28, .iaload, 1, []),
  (29, .goto 4, 3, [33]),
  (32, .iconst 0, 1, []),
  (33, .ireturn, 1, [0])]
def mr29 (S : Nat → mv_Sp) (P : mv_Post) : mv_Kt := mv_R mv_DF mk29 S (0, 0) P
theorem e29_0 : mr29 S P 0 L st sh M c s = (q_isI (q_gv L 1) ∧ mr29 S P 1 L (q_gv L 1 :: st) sh M c s) := (propext (mv_R_iff (i := .iload_n 1) (len := 1) (ax := []) (by decide +kernel))).trans (q_ldI_eq (K := fun st => mr29 S P 1 L st sh M c s))
theorem e29_1 {x : Int32} : mr29 S P 1 L (.int x :: st) sh M c s = (if x < nI 0 then mr29 S P 32 L st sh M c s else mr29 S P 4 L st sh M c s) := (propext (mv_R_iff (i := .ifCond .lt 31) (len := 3) (ax := [32]) (by decide +kernel))).trans (q_br)
theorem e29_4 : mr29 S P 4 L st sh M c s = (q_isI (q_gv L 1) ∧ mr29 S P 5 L (q_gv L 1 :: st) sh M c s) := (propext (mv_R_iff (i := .iload_n 1) (len := 1) (ax := []) (by decide +kernel))).trans (q_ldI_eq (K := fun st => mr29 S P 5 L st sh M c s))
theorem e29_5 : mr29 S P 5 L st sh M c s = (mr29 S P 7 L (.int (nI 6) :: st) sh M c s) := propext (mv_R_iff (i := .bipush 6) (len := 2) (ax := []) (by decide +kernel))
theorem e29_7 {y : Int32} {x : Int32} : mr29 S P 7 L (.int y :: .int x :: st) sh M c s = (if y ≤ x then mr29 S P 32 L st sh M c s else mr29 S P 10 L st sh M c s) := (propext (mv_R_iff (i := .if_icmp .ge 25) (len := 3) (ax := [32]) (by decide +kernel))).trans (q_br)
theorem e29_10 : mr29 S P 10 L st sh M c s = (q_isI (q_gv L 2) ∧ mr29 S P 11 L (q_gv L 2 :: st) sh M c s) := (propext (mv_R_iff (i := .iload_n 2) (len := 1) (ax := []) (by decide +kernel))).trans (q_ldI_eq (K := fun st => mr29 S P 11 L st sh M c s))
theorem e29_11 {x : Int32} : mr29 S P 11 L (.int x :: st) sh M c s = (if x < nI 0 then mr29 S P 32 L st sh M c s else mr29 S P 14 L st sh M c s) := (propext (mv_R_iff (i := .ifCond .lt 21) (len := 3) (ax := [32]) (by decide +kernel))).trans (q_br)
theorem e29_14 : mr29 S P 14 L st sh M c s = (q_isI (q_gv L 2) ∧ mr29 S P 15 L (q_gv L 2 :: st) sh M c s) := (propext (mv_R_iff (i := .iload_n 2) (len := 1) (ax := []) (by decide +kernel))).trans (q_ldI_eq (K := fun st => mr29 S P 15 L st sh M c s))
theorem e29_15 : mr29 S P 15 L st sh M c s = (mr29 S P 16 L (.int (nI 4) :: st) sh M c s) := propext (mv_R_iff (i := .iconst 4) (len := 1) (ax := []) (by decide +kernel))
theorem e29_16 {y : Int32} {x : Int32} : mr29 S P 16 L (.int y :: .int x :: st) sh M c s = (if y ≤ x then mr29 S P 32 L st sh M c s else mr29 S P 19 L st sh M c s) := (propext (mv_R_iff (i := .if_icmp .ge 16) (len := 3) (ax := [32]) (by decide +kernel))).trans (q_br)
theorem e29_19 : mr29 S P 19 L st sh M c s = (q_isA (q_gv L 0) ∧ mr29 S P 20 L (q_gv L 0 :: st) sh M c s) := (propext (mv_R_iff (i := .aload_n 0) (len := 1) (ax := []) (by decide +kernel))).trans (q_ldA_eq (K := fun st => mr29 S P 20 L st sh M c s))
theorem e29_20 {a : Nat} : mr29 S P 20 L (.ref a :: st) sh M c s = (mv_kgf sh M a 1 6 (mr29 S P) 23 L st c s) := propext (mv_R_iff (i := .getfield 18) (len := 3) (ax := [185, 0, 1, 6]) (by decide +kernel))
theorem e29_23 : mr29 S P 23 L st sh M c s = (q_isI (q_gv L 1) ∧ mr29 S P 24 L (q_gv L 1 :: st) sh M c s) := (propext (mv_R_iff (i := .iload_n 1) (len := 1) (ax := []) (by decide +kernel))).trans (q_ldI_eq (K := fun st => mr29 S P 24 L st sh M c s))
theorem e29_24 : mr29 S P 24 L st sh M c s = (mr29 S P 25 L (.int (nI 4) :: st) sh M c s) := propext (mv_R_iff (i := .iconst 4) (len := 1) (ax := []) (by decide +kernel))
theorem e29_25 {y : Int32} {x : Int32} : mr29 S P 25 L (.int y :: .int x :: st) sh M c s = (mr29 S P 26 L (.int (x * y) :: st) sh M c s) := propext (mv_R_iff (i := .imul) (len := 1) (ax := []) (by decide +kernel))
theorem e29_26 : mr29 S P 26 L st sh M c s = (q_isI (q_gv L 2) ∧ mr29 S P 27 L (q_gv L 2 :: st) sh M c s) := (propext (mv_R_iff (i := .iload_n 2) (len := 1) (ax := []) (by decide +kernel))).trans (q_ldI_eq (K := fun st => mr29 S P 27 L st sh M c s))
theorem e29_27 {y : Int32} {x : Int32} : mr29 S P 27 L (.int y :: .int x :: st) sh M c s = (mr29 S P 28 L (.int (x + y) :: st) sh M c s) := propext (mv_R_iff (i := .iadd) (len := 1) (ax := []) (by decide +kernel))
theorem e29_28 {i : Int32} {a : Nat} : mr29 S P 28 L (.int i :: .ref a :: st) sh M c s = (mv_kld sh M a i (mr29 S P) 29 L st c s) := propext (mv_R_iff (i := .iaload) (len := 1) (ax := []) (by decide +kernel))
theorem e29_29 : mr29 S P 29 L st sh M c s = (mr29 S P 33 L st sh M c s) := propext (mv_R_iff (i := .goto 4) (len := 3) (ax := [33]) (by decide +kernel))
theorem e29_32 : mr29 S P 32 L st sh M c s = (mr29 S P 33 L (.int (nI 0) :: st) sh M c s) := propext (mv_R_iff (i := .iconst 0) (len := 1) (ax := []) (by decide +kernel))
theorem e29_33 {x : Int32} : mr29 S P 33 L [.int x] sh M c s = (mv_nr 0 x ∧ P (some (.int x)) sh M) := propext (mv_R_iff (i := .ireturn) (len := 1) (ax := [0]) (by decide +kernel))
-- 57: Loom.members(I)I
def mk57 : mv_Cd := [
  (0, .iload_n 1, 1, []),
  (1, .ifCond .lt 18, 3, [19]),
  (4, .iload_n 1, 1, []),
  (5, .bipush 6, 2, []),
  (7, .if_icmp .ge 12, 3, [19]),
  (10, .aload_n 0, 1, []),
  (11, .getfield 24, 3, [187, 0, 1, 8]),
  (14, .iload_n 1, 1, []),
  (15, .iaload, 1, []),
  (16, .goto 4, 3, [20]),
  (19, .iconst 0, 1, []),
  (20, .ireturn, 1, [0])]
def mr57 (S : Nat → mv_Sp) (P : mv_Post) : mv_Kt := mv_R mv_DF mk57 S (0, 0) P
theorem e57_0 : mr57 S P 0 L st sh M c s = (q_isI (q_gv L 1) ∧ mr57 S P 1 L (q_gv L 1 :: st) sh M c s) := (propext (mv_R_iff (i := .iload_n 1) (len := 1) (ax := []) (by decide +kernel))).trans (q_ldI_eq (K := fun st => mr57 S P 1 L st sh M c s))
theorem e57_1 {x : Int32} : mr57 S P 1 L (.int x :: st) sh M c s = (if x < nI 0 then mr57 S P 19 L st sh M c s else mr57 S P 4 L st sh M c s) := (propext (mv_R_iff (i := .ifCond .lt 18) (len := 3) (ax := [19]) (by decide +kernel))).trans (q_br)
theorem e57_4 : mr57 S P 4 L st sh M c s = (q_isI (q_gv L 1) ∧ mr57 S P 5 L (q_gv L 1 :: st) sh M c s) := (propext (mv_R_iff (i := .iload_n 1) (len := 1) (ax := []) (by decide +kernel))).trans (q_ldI_eq (K := fun st => mr57 S P 5 L st sh M c s))
theorem e57_5 : mr57 S P 5 L st sh M c s = (mr57 S P 7 L (.int (nI 6) :: st) sh M c s) := propext (mv_R_iff (i := .bipush 6) (len := 2) (ax := []) (by decide +kernel))
theorem e57_7 {y : Int32} {x : Int32} : mr57 S P 7 L (.int y :: .int x :: st) sh M c s = (if y ≤ x then mr57 S P 19 L st sh M c s else mr57 S P 10 L st sh M c s) := (propext (mv_R_iff (i := .if_icmp .ge 12) (len := 3) (ax := [19]) (by decide +kernel))).trans (q_br)
theorem e57_10 : mr57 S P 10 L st sh M c s = (q_isA (q_gv L 0) ∧ mr57 S P 11 L (q_gv L 0 :: st) sh M c s) := (propext (mv_R_iff (i := .aload_n 0) (len := 1) (ax := []) (by decide +kernel))).trans (q_ldA_eq (K := fun st => mr57 S P 11 L st sh M c s))
theorem e57_11 {a : Nat} : mr57 S P 11 L (.ref a :: st) sh M c s = (mv_kgf sh M a 1 8 (mr57 S P) 14 L st c s) := propext (mv_R_iff (i := .getfield 24) (len := 3) (ax := [187, 0, 1, 8]) (by decide +kernel))
theorem e57_14 : mr57 S P 14 L st sh M c s = (q_isI (q_gv L 1) ∧ mr57 S P 15 L (q_gv L 1 :: st) sh M c s) := (propext (mv_R_iff (i := .iload_n 1) (len := 1) (ax := []) (by decide +kernel))).trans (q_ldI_eq (K := fun st => mr57 S P 15 L st sh M c s))
theorem e57_15 {i : Int32} {a : Nat} : mr57 S P 15 L (.int i :: .ref a :: st) sh M c s = (mv_kld sh M a i (mr57 S P) 16 L st c s) := propext (mv_R_iff (i := .iaload) (len := 1) (ax := []) (by decide +kernel))
theorem e57_16 : mr57 S P 16 L st sh M c s = (mr57 S P 20 L st sh M c s) := propext (mv_R_iff (i := .goto 4) (len := 3) (ax := [20]) (by decide +kernel))
theorem e57_19 : mr57 S P 19 L st sh M c s = (mr57 S P 20 L (.int (nI 0) :: st) sh M c s) := propext (mv_R_iff (i := .iconst 0) (len := 1) (ax := []) (by decide +kernel))
theorem e57_20 {x : Int32} : mr57 S P 20 L [.int x] sh M c s = (mv_nr 0 x ∧ P (some (.int x)) sh M) := propext (mv_R_iff (i := .ireturn) (len := 1) (ax := [0]) (by decide +kernel))
-- 58: Loom.isMember(II)Z
def mk58 : mv_Cd := [
  (0, .aload_n 0, 1, []),
  (1, .iload_n 1, 1, []),
  (2, .invokevirtual 49, 3, [0, 57, 2, 1, 0, 0, 0, 701, 630, 25, 109, 631]),
  (5, .iload_n 2, 1, []),
  (6, .ishr, 1, []),
  (7, .iconst 1, 1, []),
  (8, .iand, 1, []),
  (9, .iconst 1, 1, []),
  (10, .if_icmp .ne 7, 3, [17]),
  (13, .iconst 1, 1, []),
  (14, .goto 4, 3, [18]),
  (17, .iconst 0, 1, []),
  (18, .ireturn, 1, [1])]
def mr58 (S : Nat → mv_Sp) (P : mv_Post) : mv_Kt := mv_R mv_DF mk58 S (0, 0) P
theorem e58_0 : mr58 S P 0 L st sh M c s = (q_isA (q_gv L 0) ∧ mr58 S P 1 L (q_gv L 0 :: st) sh M c s) := (propext (mv_R_iff (i := .aload_n 0) (len := 1) (ax := []) (by decide +kernel))).trans (q_ldA_eq (K := fun st => mr58 S P 1 L st sh M c s))
theorem e58_1 : mr58 S P 1 L st sh M c s = (q_isI (q_gv L 1) ∧ mr58 S P 2 L (q_gv L 1 :: st) sh M c s) := (propext (mv_R_iff (i := .iload_n 1) (len := 1) (ax := []) (by decide +kernel))).trans (q_ldI_eq (K := fun st => mr58 S P 2 L st sh M c s))
theorem e58_2 {v2 : Value} {v1 : Value} : mr58 S P 2 L (v2 :: v1 :: st) sh M c s = (mv_ss st ≤ 8 ∧ c ≤ 0 ∧ s ≤ 0 ∧ mv_isO sh (some v1) 1 ∧ mv_kal S 57 [v1, v2] sh M (mr58 S P) 5 L st c s) := (propext (mv_R_iff (i := .invokevirtual 49) (len := 3) (ax := [0, 57, 2, 1, 0, 0, 0, 701, 630, 25, 109, 631]) (by decide +kernel))).trans (q_call0)
theorem e58_5 : mr58 S P 5 L st sh M c s = (q_isI (q_gv L 2) ∧ mr58 S P 6 L (q_gv L 2 :: st) sh M c s) := (propext (mv_R_iff (i := .iload_n 2) (len := 1) (ax := []) (by decide +kernel))).trans (q_ldI_eq (K := fun st => mr58 S P 6 L st sh M c s))
theorem e58_6 {y : Int32} {x : Int32} : mr58 S P 6 L (.int y :: .int x :: st) sh M c s = (mr58 S P 7 L (.int (x >>> (y &&& 31)) :: st) sh M c s) := propext (mv_R_iff (i := .ishr) (len := 1) (ax := []) (by decide +kernel))
theorem e58_7 : mr58 S P 7 L st sh M c s = (mr58 S P 8 L (.int (nI 1) :: st) sh M c s) := propext (mv_R_iff (i := .iconst 1) (len := 1) (ax := []) (by decide +kernel))
theorem e58_8 {y : Int32} {x : Int32} : mr58 S P 8 L (.int y :: .int x :: st) sh M c s = (mr58 S P 9 L (.int (x &&& y) :: st) sh M c s) := propext (mv_R_iff (i := .iand) (len := 1) (ax := []) (by decide +kernel))
theorem e58_9 : mr58 S P 9 L st sh M c s = (mr58 S P 10 L (.int (nI 1) :: st) sh M c s) := propext (mv_R_iff (i := .iconst 1) (len := 1) (ax := []) (by decide +kernel))
theorem e58_10 {y : Int32} {x : Int32} : mr58 S P 10 L (.int y :: .int x :: st) sh M c s = (if x = y then mr58 S P 13 L st sh M c s else mr58 S P 17 L st sh M c s) := (propext (mv_R_iff (i := .if_icmp .ne 7) (len := 3) (ax := [17]) (by decide +kernel))).trans (q_br')
theorem e58_13 : mr58 S P 13 L st sh M c s = (mr58 S P 14 L (.int (nI 1) :: st) sh M c s) := propext (mv_R_iff (i := .iconst 1) (len := 1) (ax := []) (by decide +kernel))
theorem e58_14 : mr58 S P 14 L st sh M c s = (mr58 S P 18 L st sh M c s) := propext (mv_R_iff (i := .goto 4) (len := 3) (ax := [18]) (by decide +kernel))
theorem e58_17 : mr58 S P 17 L st sh M c s = (mr58 S P 18 L (.int (nI 0) :: st) sh M c s) := propext (mv_R_iff (i := .iconst 0) (len := 1) (ax := []) (by decide +kernel))
theorem e58_18 {x : Int32} : mr58 S P 18 L [.int x] sh M c s = (mv_nr 1 x ∧ P (some (.int x)) sh M) := propext (mv_R_iff (i := .ireturn) (len := 1) (ax := [1]) (by decide +kernel))
-- 59: Loom.kind(I)I
def mk59 : mv_Cd := [
  (0, .iload_n 1, 1, []),
  (1, .ifCond .lt 18, 3, [19]),
  (4, .iload_n 1, 1, []),
  (5, .bipush 6, 2, []),
  (7, .if_icmp .ge 12, 3, [19]),
  (10, .aload_n 0, 1, []),
  (11, .getfield 9, 3, [183, 0, 1, 4]),
  (14, .iload_n 1, 1, []),
  (15, .iaload, 1, []),
  (16, .goto 4, 3, [20]),
  (19, .iconst 0, 1, []),
  (20, .ireturn, 1, [0])]
def mr59 (S : Nat → mv_Sp) (P : mv_Post) : mv_Kt := mv_R mv_DF mk59 S (0, 0) P
theorem e59_0 : mr59 S P 0 L st sh M c s = (q_isI (q_gv L 1) ∧ mr59 S P 1 L (q_gv L 1 :: st) sh M c s) := (propext (mv_R_iff (i := .iload_n 1) (len := 1) (ax := []) (by decide +kernel))).trans (q_ldI_eq (K := fun st => mr59 S P 1 L st sh M c s))
theorem e59_1 {x : Int32} : mr59 S P 1 L (.int x :: st) sh M c s = (if x < nI 0 then mr59 S P 19 L st sh M c s else mr59 S P 4 L st sh M c s) := (propext (mv_R_iff (i := .ifCond .lt 18) (len := 3) (ax := [19]) (by decide +kernel))).trans (q_br)
theorem e59_4 : mr59 S P 4 L st sh M c s = (q_isI (q_gv L 1) ∧ mr59 S P 5 L (q_gv L 1 :: st) sh M c s) := (propext (mv_R_iff (i := .iload_n 1) (len := 1) (ax := []) (by decide +kernel))).trans (q_ldI_eq (K := fun st => mr59 S P 5 L st sh M c s))
theorem e59_5 : mr59 S P 5 L st sh M c s = (mr59 S P 7 L (.int (nI 6) :: st) sh M c s) := propext (mv_R_iff (i := .bipush 6) (len := 2) (ax := []) (by decide +kernel))
theorem e59_7 {y : Int32} {x : Int32} : mr59 S P 7 L (.int y :: .int x :: st) sh M c s = (if y ≤ x then mr59 S P 19 L st sh M c s else mr59 S P 10 L st sh M c s) := (propext (mv_R_iff (i := .if_icmp .ge 12) (len := 3) (ax := [19]) (by decide +kernel))).trans (q_br)
theorem e59_10 : mr59 S P 10 L st sh M c s = (q_isA (q_gv L 0) ∧ mr59 S P 11 L (q_gv L 0 :: st) sh M c s) := (propext (mv_R_iff (i := .aload_n 0) (len := 1) (ax := []) (by decide +kernel))).trans (q_ldA_eq (K := fun st => mr59 S P 11 L st sh M c s))
theorem e59_11 {a : Nat} : mr59 S P 11 L (.ref a :: st) sh M c s = (mv_kgf sh M a 1 4 (mr59 S P) 14 L st c s) := propext (mv_R_iff (i := .getfield 9) (len := 3) (ax := [183, 0, 1, 4]) (by decide +kernel))
theorem e59_14 : mr59 S P 14 L st sh M c s = (q_isI (q_gv L 1) ∧ mr59 S P 15 L (q_gv L 1 :: st) sh M c s) := (propext (mv_R_iff (i := .iload_n 1) (len := 1) (ax := []) (by decide +kernel))).trans (q_ldI_eq (K := fun st => mr59 S P 15 L st sh M c s))
theorem e59_15 {i : Int32} {a : Nat} : mr59 S P 15 L (.int i :: .ref a :: st) sh M c s = (mv_kld sh M a i (mr59 S P) 16 L st c s) := propext (mv_R_iff (i := .iaload) (len := 1) (ax := []) (by decide +kernel))
theorem e59_16 : mr59 S P 16 L st sh M c s = (mr59 S P 20 L st sh M c s) := propext (mv_R_iff (i := .goto 4) (len := 3) (ax := [20]) (by decide +kernel))
theorem e59_19 : mr59 S P 19 L st sh M c s = (mr59 S P 20 L (.int (nI 0) :: st) sh M c s) := propext (mv_R_iff (i := .iconst 0) (len := 1) (ax := []) (by decide +kernel))
theorem e59_20 {x : Int32} : mr59 S P 20 L [.int x] sh M c s = (mv_nr 0 x ∧ P (some (.int x)) sh M) := propext (mv_R_iff (i := .ireturn) (len := 1) (ax := [0]) (by decide +kernel))
-- 60: Loom.quarters(II)I
def mk60 : mv_Cd := [
  (0, .iload_n 2, 1, []),
  (1, .ifCond .ne 7, 3, [8]),
  (4, .iconst 1, 1, []),
  (5, .goto 4, 3, [9]),
  (8, .iconst (-1), 1, []),
  (9, .istore_n 3, 1, []),
  (10, .aload_n 0, 1, []),
  (11, .iload_n 1, 1, []),
  (12, .invokevirtual 63, 3, [0, 59, 2, 1, 0, 0, 0, 714, 604, 21, 109, 605]),
  (15, .tableswitch 42 1 3 #[25, 29, 32], 25, [57, 40, 44, 47]),
  (40, .iconst 2, 1, []),
  (41, .iload_n 3, 1, []),
  (42, .imul, 1, []),
  (43, .ireturn, 1, [0]),
  (44, .iload_n 3, 1, []),
  (45, .ineg, 1, []),
  (46, .ireturn, 1, [0]),
  (47, .iload_n 2, 1, []),
  (48, .ifCond .ne 7, 3, [55]),
  (51, .iconst 1, 1, []),
  (52, .goto 4, 3, [56]),
  (55, .iconst 0, 1, []),
  (56, .ireturn, 1, [0]),
  (57, .iload_n 3, 1, []),
  (58, .ireturn, 1, [0])]
def mr60 (S : Nat → mv_Sp) (P : mv_Post) : mv_Kt := mv_R mv_DF mk60 S (0, 0) P
theorem e60_0 : mr60 S P 0 L st sh M c s = (q_isI (q_gv L 2) ∧ mr60 S P 1 L (q_gv L 2 :: st) sh M c s) := (propext (mv_R_iff (i := .iload_n 2) (len := 1) (ax := []) (by decide +kernel))).trans (q_ldI_eq (K := fun st => mr60 S P 1 L st sh M c s))
theorem e60_1 {x : Int32} : mr60 S P 1 L (.int x :: st) sh M c s = (if x = nI 0 then mr60 S P 4 L st sh M c s else mr60 S P 8 L st sh M c s) := (propext (mv_R_iff (i := .ifCond .ne 7) (len := 3) (ax := [8]) (by decide +kernel))).trans (q_br')
theorem e60_4 : mr60 S P 4 L st sh M c s = (mr60 S P 5 L (.int (nI 1) :: st) sh M c s) := propext (mv_R_iff (i := .iconst 1) (len := 1) (ax := []) (by decide +kernel))
theorem e60_5 : mr60 S P 5 L st sh M c s = (mr60 S P 9 L st sh M c s) := propext (mv_R_iff (i := .goto 4) (len := 3) (ax := [9]) (by decide +kernel))
theorem e60_8 : mr60 S P 8 L st sh M c s = (mr60 S P 9 L (.int (Int32.ofInt (-1)) :: st) sh M c s) := propext (mv_R_iff (i := .iconst (-1)) (len := 1) (ax := []) (by decide +kernel))
theorem e60_9 {x : Int32} : mr60 S P 9 L (.int x :: st) sh M c s = (q_hs L 3 ∧ mr60 S P 10 (L.set 3 (some (.int x))) st sh M c s) := (propext (mv_R_iff (i := .istore_n 3) (len := 1) (ax := []) (by decide +kernel))).trans (q_st_eq (K := fun L => mr60 S P 10 L st sh M c s))
theorem e60_10 : mr60 S P 10 L st sh M c s = (q_isA (q_gv L 0) ∧ mr60 S P 11 L (q_gv L 0 :: st) sh M c s) := (propext (mv_R_iff (i := .aload_n 0) (len := 1) (ax := []) (by decide +kernel))).trans (q_ldA_eq (K := fun st => mr60 S P 11 L st sh M c s))
theorem e60_11 : mr60 S P 11 L st sh M c s = (q_isI (q_gv L 1) ∧ mr60 S P 12 L (q_gv L 1 :: st) sh M c s) := (propext (mv_R_iff (i := .iload_n 1) (len := 1) (ax := []) (by decide +kernel))).trans (q_ldI_eq (K := fun st => mr60 S P 12 L st sh M c s))
theorem e60_12 {v2 : Value} {v1 : Value} : mr60 S P 12 L (v2 :: v1 :: st) sh M c s = (mv_ss st ≤ 8 ∧ c ≤ 0 ∧ s ≤ 0 ∧ mv_isO sh (some v1) 1 ∧ mv_kal S 59 [v1, v2] sh M (mr60 S P) 15 L st c s) := (propext (mv_R_iff (i := .invokevirtual 63) (len := 3) (ax := [0, 59, 2, 1, 0, 0, 0, 714, 604, 21, 109, 605]) (by decide +kernel))).trans (q_call0)
theorem e60_15 {x : Int32} : mr60 S P 15 L (.int x :: st) sh M c s = (if x = (nI 1) then mr60 S P 40 L st sh M c s else if x = (nI 2) then mr60 S P 44 L st sh M c s else if x = (nI 3) then mr60 S P 47 L st sh M c s else mr60 S P 57 L st sh M c s) := (propext (mv_R_iff (i := .tableswitch 42 1 3 #[25, 29, 32]) (len := 25) (ax := [57, 40, 44, 47]) (by decide +kernel))).trans (q_sw3)
theorem e60_40 : mr60 S P 40 L st sh M c s = (mr60 S P 41 L (.int (nI 2) :: st) sh M c s) := propext (mv_R_iff (i := .iconst 2) (len := 1) (ax := []) (by decide +kernel))
theorem e60_41 : mr60 S P 41 L st sh M c s = (q_isI (q_gv L 3) ∧ mr60 S P 42 L (q_gv L 3 :: st) sh M c s) := (propext (mv_R_iff (i := .iload_n 3) (len := 1) (ax := []) (by decide +kernel))).trans (q_ldI_eq (K := fun st => mr60 S P 42 L st sh M c s))
theorem e60_42 {y : Int32} {x : Int32} : mr60 S P 42 L (.int y :: .int x :: st) sh M c s = (mr60 S P 43 L (.int (x * y) :: st) sh M c s) := propext (mv_R_iff (i := .imul) (len := 1) (ax := []) (by decide +kernel))
theorem e60_43 {x : Int32} : mr60 S P 43 L [.int x] sh M c s = (mv_nr 0 x ∧ P (some (.int x)) sh M) := propext (mv_R_iff (i := .ireturn) (len := 1) (ax := [0]) (by decide +kernel))
theorem e60_44 : mr60 S P 44 L st sh M c s = (q_isI (q_gv L 3) ∧ mr60 S P 45 L (q_gv L 3 :: st) sh M c s) := (propext (mv_R_iff (i := .iload_n 3) (len := 1) (ax := []) (by decide +kernel))).trans (q_ldI_eq (K := fun st => mr60 S P 45 L st sh M c s))
theorem e60_45 {x : Int32} : mr60 S P 45 L (.int x :: st) sh M c s = (mr60 S P 46 L (.int (-x) :: st) sh M c s) := propext (mv_R_iff (i := .ineg) (len := 1) (ax := []) (by decide +kernel))
theorem e60_46 {x : Int32} : mr60 S P 46 L [.int x] sh M c s = (mv_nr 0 x ∧ P (some (.int x)) sh M) := propext (mv_R_iff (i := .ireturn) (len := 1) (ax := [0]) (by decide +kernel))
theorem e60_47 : mr60 S P 47 L st sh M c s = (q_isI (q_gv L 2) ∧ mr60 S P 48 L (q_gv L 2 :: st) sh M c s) := (propext (mv_R_iff (i := .iload_n 2) (len := 1) (ax := []) (by decide +kernel))).trans (q_ldI_eq (K := fun st => mr60 S P 48 L st sh M c s))
theorem e60_48 {x : Int32} : mr60 S P 48 L (.int x :: st) sh M c s = (if x = nI 0 then mr60 S P 51 L st sh M c s else mr60 S P 55 L st sh M c s) := (propext (mv_R_iff (i := .ifCond .ne 7) (len := 3) (ax := [55]) (by decide +kernel))).trans (q_br')
theorem e60_51 : mr60 S P 51 L st sh M c s = (mr60 S P 52 L (.int (nI 1) :: st) sh M c s) := propext (mv_R_iff (i := .iconst 1) (len := 1) (ax := []) (by decide +kernel))
theorem e60_52 : mr60 S P 52 L st sh M c s = (mr60 S P 56 L st sh M c s) := propext (mv_R_iff (i := .goto 4) (len := 3) (ax := [56]) (by decide +kernel))
theorem e60_55 : mr60 S P 55 L st sh M c s = (mr60 S P 56 L (.int (nI 0) :: st) sh M c s) := propext (mv_R_iff (i := .iconst 0) (len := 1) (ax := []) (by decide +kernel))
theorem e60_56 {x : Int32} : mr60 S P 56 L [.int x] sh M c s = (mv_nr 0 x ∧ P (some (.int x)) sh M) := propext (mv_R_iff (i := .ireturn) (len := 1) (ax := [0]) (by decide +kernel))
theorem e60_57 : mr60 S P 57 L st sh M c s = (q_isI (q_gv L 3) ∧ mr60 S P 58 L (q_gv L 3 :: st) sh M c s) := (propext (mv_R_iff (i := .iload_n 3) (len := 1) (ax := []) (by decide +kernel))).trans (q_ldI_eq (K := fun st => mr60 S P 58 L st sh M c s))
theorem e60_58 {x : Int32} : mr60 S P 58 L [.int x] sh M c s = (mv_nr 0 x ∧ P (some (.int x)) sh M) := propext (mv_R_iff (i := .ireturn) (len := 1) (ax := [0]) (by decide +kernel))
end CD
