/-! code lists and step rows, written by program -/
section CD
variable {S : Nat → mv_Sp} {P : mv_Post} {L : mv_Loc} {st : List Value} {sh : mv_Shp} {M : mv_Mem} {c s : Nat}
-- 43: Loom.threading(I)I
def mk43 : mv_Cd := [
  (0, .iload_n 1, 1, []),
  (1, .ifCond .lt 18, 3, [19]),
  (4, .iload_n 1, 1, []),
  (5, .bipush 6, 2, []),
  (7, .if_icmp .ge 12, 3, [19]),
  (10, .aload_n 0, 1, []),
  (11, .getfield 15, 3, [184, 0, 1, 5]),
  (14, .iload_n 1, 1, []),
  (15, .iaload, 1, []),
  (16, .goto 4, 3, [20]),
  (19, .iconst 0, 1, []),
  (20, .ireturn, 1, [0])]
def mr43 (S : Nat → mv_Sp) (P : mv_Post) : mv_Kt := mv_R mv_DF mk43 S (0, 0) P
theorem e43_0 : mr43 S P 0 L st sh M c s = (q_isI (q_gv L 1) ∧ mr43 S P 1 L (q_gv L 1 :: st) sh M c s) := (propext (mv_R_iff (i := .iload_n 1) (len := 1) (ax := []) (by decide +kernel))).trans (q_ldI_eq (K := fun st => mr43 S P 1 L st sh M c s))
theorem e43_1 {x : Int32} : mr43 S P 1 L (.int x :: st) sh M c s = (if x < nI 0 then mr43 S P 19 L st sh M c s else mr43 S P 4 L st sh M c s) := (propext (mv_R_iff (i := .ifCond .lt 18) (len := 3) (ax := [19]) (by decide +kernel))).trans (q_br)
theorem e43_4 : mr43 S P 4 L st sh M c s = (q_isI (q_gv L 1) ∧ mr43 S P 5 L (q_gv L 1 :: st) sh M c s) := (propext (mv_R_iff (i := .iload_n 1) (len := 1) (ax := []) (by decide +kernel))).trans (q_ldI_eq (K := fun st => mr43 S P 5 L st sh M c s))
theorem e43_5 : mr43 S P 5 L st sh M c s = (mr43 S P 7 L (.int (nI 6) :: st) sh M c s) := propext (mv_R_iff (i := .bipush 6) (len := 2) (ax := []) (by decide +kernel))
theorem e43_7 {y : Int32} {x : Int32} : mr43 S P 7 L (.int y :: .int x :: st) sh M c s = (if y ≤ x then mr43 S P 19 L st sh M c s else mr43 S P 10 L st sh M c s) := (propext (mv_R_iff (i := .if_icmp .ge 12) (len := 3) (ax := [19]) (by decide +kernel))).trans (q_br)
theorem e43_10 : mr43 S P 10 L st sh M c s = (q_isA (q_gv L 0) ∧ mr43 S P 11 L (q_gv L 0 :: st) sh M c s) := (propext (mv_R_iff (i := .aload_n 0) (len := 1) (ax := []) (by decide +kernel))).trans (q_ldA_eq (K := fun st => mr43 S P 11 L st sh M c s))
theorem e43_11 {a : Nat} : mr43 S P 11 L (.ref a :: st) sh M c s = (mv_kgf sh M a 1 5 (mr43 S P) 14 L st c s) := propext (mv_R_iff (i := .getfield 15) (len := 3) (ax := [184, 0, 1, 5]) (by decide +kernel))
theorem e43_14 : mr43 S P 14 L st sh M c s = (q_isI (q_gv L 1) ∧ mr43 S P 15 L (q_gv L 1 :: st) sh M c s) := (propext (mv_R_iff (i := .iload_n 1) (len := 1) (ax := []) (by decide +kernel))).trans (q_ldI_eq (K := fun st => mr43 S P 15 L st sh M c s))
theorem e43_15 {i : Int32} {a : Nat} : mr43 S P 15 L (.int i :: .ref a :: st) sh M c s = (mv_kld sh M a i (mr43 S P) 16 L st c s) := propext (mv_R_iff (i := .iaload) (len := 1) (ax := []) (by decide +kernel))
theorem e43_16 : mr43 S P 16 L st sh M c s = (mr43 S P 20 L st sh M c s) := propext (mv_R_iff (i := .goto 4) (len := 3) (ax := [20]) (by decide +kernel))
theorem e43_19 : mr43 S P 19 L st sh M c s = (mr43 S P 20 L (.int (nI 0) :: st) sh M c s) := propext (mv_R_iff (i := .iconst 0) (len := 1) (ax := []) (by decide +kernel))
theorem e43_20 {x : Int32} : mr43 S P 20 L [.int x] sh M c s = (mv_nr 0 x ∧ P (some (.int x)) sh M) := propext (mv_R_iff (i := .ireturn) (len := 1) (ax := [0]) (by decide +kernel))
-- 54: Loom.pick(I)I
def mk54 : mv_Cd := [
  (0, .iload_n 1, 1, []),
  (1, .ifCond .lt 18, 3, [19]),
  (4, .iload_n 1, 1, []),
  (5, .bipush 8, 2, []),
  (7, .if_icmp .ge 12, 3, [19]),
  (10, .aload_n 0, 1, []),
  (11, .getfield 27, 3, [188, 0, 1, 9]),
  (14, .iload_n 1, 1, []),
  (15, .iaload, 1, []),
  (16, .goto 4, 3, [20]),
  (19, .iconst 0, 1, []),
  (20, .ireturn, 1, [0])]
def mr54 (S : Nat → mv_Sp) (P : mv_Post) : mv_Kt := mv_R mv_DF mk54 S (0, 0) P
theorem e54_0 : mr54 S P 0 L st sh M c s = (q_isI (q_gv L 1) ∧ mr54 S P 1 L (q_gv L 1 :: st) sh M c s) := (propext (mv_R_iff (i := .iload_n 1) (len := 1) (ax := []) (by decide +kernel))).trans (q_ldI_eq (K := fun st => mr54 S P 1 L st sh M c s))
theorem e54_1 {x : Int32} : mr54 S P 1 L (.int x :: st) sh M c s = (if x < nI 0 then mr54 S P 19 L st sh M c s else mr54 S P 4 L st sh M c s) := (propext (mv_R_iff (i := .ifCond .lt 18) (len := 3) (ax := [19]) (by decide +kernel))).trans (q_br)
theorem e54_4 : mr54 S P 4 L st sh M c s = (q_isI (q_gv L 1) ∧ mr54 S P 5 L (q_gv L 1 :: st) sh M c s) := (propext (mv_R_iff (i := .iload_n 1) (len := 1) (ax := []) (by decide +kernel))).trans (q_ldI_eq (K := fun st => mr54 S P 5 L st sh M c s))
theorem e54_5 : mr54 S P 5 L st sh M c s = (mr54 S P 7 L (.int (nI 8) :: st) sh M c s) := propext (mv_R_iff (i := .bipush 8) (len := 2) (ax := []) (by decide +kernel))
theorem e54_7 {y : Int32} {x : Int32} : mr54 S P 7 L (.int y :: .int x :: st) sh M c s = (if y ≤ x then mr54 S P 19 L st sh M c s else mr54 S P 10 L st sh M c s) := (propext (mv_R_iff (i := .if_icmp .ge 12) (len := 3) (ax := [19]) (by decide +kernel))).trans (q_br)
theorem e54_10 : mr54 S P 10 L st sh M c s = (q_isA (q_gv L 0) ∧ mr54 S P 11 L (q_gv L 0 :: st) sh M c s) := (propext (mv_R_iff (i := .aload_n 0) (len := 1) (ax := []) (by decide +kernel))).trans (q_ldA_eq (K := fun st => mr54 S P 11 L st sh M c s))
theorem e54_11 {a : Nat} : mr54 S P 11 L (.ref a :: st) sh M c s = (mv_kgf sh M a 1 9 (mr54 S P) 14 L st c s) := propext (mv_R_iff (i := .getfield 27) (len := 3) (ax := [188, 0, 1, 9]) (by decide +kernel))
theorem e54_14 : mr54 S P 14 L st sh M c s = (q_isI (q_gv L 1) ∧ mr54 S P 15 L (q_gv L 1 :: st) sh M c s) := (propext (mv_R_iff (i := .iload_n 1) (len := 1) (ax := []) (by decide +kernel))).trans (q_ldI_eq (K := fun st => mr54 S P 15 L st sh M c s))
theorem e54_15 {i : Int32} {a : Nat} : mr54 S P 15 L (.int i :: .ref a :: st) sh M c s = (mv_kld sh M a i (mr54 S P) 16 L st c s) := propext (mv_R_iff (i := .iaload) (len := 1) (ax := []) (by decide +kernel))
theorem e54_16 : mr54 S P 16 L st sh M c s = (mr54 S P 20 L st sh M c s) := propext (mv_R_iff (i := .goto 4) (len := 3) (ax := [20]) (by decide +kernel))
theorem e54_19 : mr54 S P 19 L st sh M c s = (mr54 S P 20 L (.int (nI 0) :: st) sh M c s) := propext (mv_R_iff (i := .iconst 0) (len := 1) (ax := []) (by decide +kernel))
theorem e54_20 {x : Int32} : mr54 S P 20 L [.int x] sh M c s = (mv_nr 0 x ∧ P (some (.int x)) sh M) := propext (mv_R_iff (i := .ireturn) (len := 1) (ax := [0]) (by decide +kernel))
-- 55: Loom.pickPack(I)I
def mk55 : mv_Cd := [
  (0, .aload_n 0, 1, []),
  (1, .iload_n 1, 1, []),
  (2, .invokevirtual 53, 3, [0, 54, 2, 1, 0, 0, 0, 730, 638, 26, 109, 639]),
  (5, .bipush 10, 2, []),
  (7, .idiv, 1, []),
  (8, .ireturn, 1, [0])]
def mr55 (S : Nat → mv_Sp) (P : mv_Post) : mv_Kt := mv_R mv_DF mk55 S (0, 0) P
theorem e55_0 : mr55 S P 0 L st sh M c s = (q_isA (q_gv L 0) ∧ mr55 S P 1 L (q_gv L 0 :: st) sh M c s) := (propext (mv_R_iff (i := .aload_n 0) (len := 1) (ax := []) (by decide +kernel))).trans (q_ldA_eq (K := fun st => mr55 S P 1 L st sh M c s))
theorem e55_1 : mr55 S P 1 L st sh M c s = (q_isI (q_gv L 1) ∧ mr55 S P 2 L (q_gv L 1 :: st) sh M c s) := (propext (mv_R_iff (i := .iload_n 1) (len := 1) (ax := []) (by decide +kernel))).trans (q_ldI_eq (K := fun st => mr55 S P 2 L st sh M c s))
theorem e55_2 {v2 : Value} {v1 : Value} : mr55 S P 2 L (v2 :: v1 :: st) sh M c s = (mv_ss st ≤ 8 ∧ c ≤ 0 ∧ s ≤ 0 ∧ mv_isO sh (some v1) 1 ∧ mv_kal S 54 [v1, v2] sh M (mr55 S P) 5 L st c s) := (propext (mv_R_iff (i := .invokevirtual 53) (len := 3) (ax := [0, 54, 2, 1, 0, 0, 0, 730, 638, 26, 109, 639]) (by decide +kernel))).trans (q_call0)
theorem e55_5 : mr55 S P 5 L st sh M c s = (mr55 S P 7 L (.int (nI 10) :: st) sh M c s) := propext (mv_R_iff (i := .bipush 10) (len := 2) (ax := []) (by decide +kernel))
theorem e55_7 {y : Int32} {x : Int32} : mr55 S P 7 L (.int y :: .int x :: st) sh M c s = (¬ y = nI 0 ∧ mr55 S P 8 L (.int (x / y) :: st) sh M c s) := propext (mv_R_iff (i := .idiv) (len := 1) (ax := []) (by decide +kernel))
theorem e55_8 {x : Int32} : mr55 S P 8 L [.int x] sh M c s = (mv_nr 0 x ∧ P (some (.int x)) sh M) := propext (mv_R_iff (i := .ireturn) (len := 1) (ax := [0]) (by decide +kernel))
-- 56: Loom.pickWay(I)I
def mk56 : mv_Cd := [
  (0, .aload_n 0, 1, []),
  (1, .iload_n 1, 1, []),
  (2, .invokevirtual 53, 3, [0, 54, 2, 1, 0, 0, 0, 730, 638, 26, 109, 639]),
  (5, .bipush 10, 2, []),
  (7, .irem, 1, []),
  (8, .ireturn, 1, [0])]
def mr56 (S : Nat → mv_Sp) (P : mv_Post) : mv_Kt := mv_R mv_DF mk56 S (0, 0) P
theorem e56_0 : mr56 S P 0 L st sh M c s = (q_isA (q_gv L 0) ∧ mr56 S P 1 L (q_gv L 0 :: st) sh M c s) := (propext (mv_R_iff (i := .aload_n 0) (len := 1) (ax := []) (by decide +kernel))).trans (q_ldA_eq (K := fun st => mr56 S P 1 L st sh M c s))
theorem e56_1 : mr56 S P 1 L st sh M c s = (q_isI (q_gv L 1) ∧ mr56 S P 2 L (q_gv L 1 :: st) sh M c s) := (propext (mv_R_iff (i := .iload_n 1) (len := 1) (ax := []) (by decide +kernel))).trans (q_ldI_eq (K := fun st => mr56 S P 2 L st sh M c s))
theorem e56_2 {v2 : Value} {v1 : Value} : mr56 S P 2 L (v2 :: v1 :: st) sh M c s = (mv_ss st ≤ 8 ∧ c ≤ 0 ∧ s ≤ 0 ∧ mv_isO sh (some v1) 1 ∧ mv_kal S 54 [v1, v2] sh M (mr56 S P) 5 L st c s) := (propext (mv_R_iff (i := .invokevirtual 53) (len := 3) (ax := [0, 54, 2, 1, 0, 0, 0, 730, 638, 26, 109, 639]) (by decide +kernel))).trans (q_call0)
theorem e56_5 : mr56 S P 5 L st sh M c s = (mr56 S P 7 L (.int (nI 10) :: st) sh M c s) := propext (mv_R_iff (i := .bipush 10) (len := 2) (ax := []) (by decide +kernel))
theorem e56_7 {y : Int32} {x : Int32} : mr56 S P 7 L (.int y :: .int x :: st) sh M c s = (¬ y = nI 0 ∧ mr56 S P 8 L (.int (q_rm x y) :: st) sh M c s) := propext (mv_R_iff (i := .irem) (len := 1) (ax := []) (by decide +kernel))
theorem e56_8 {x : Int32} : mr56 S P 8 L [.int x] sh M c s = (mv_nr 0 x ∧ P (some (.int x)) sh M) := propext (mv_R_iff (i := .ireturn) (len := 1) (ax := [0]) (by decide +kernel))
-- 61: Cloth.get(II)I
def mk61 : mv_Cd := [
  (0, .iload_n 1, 1, []),
  (1, .ifCond .lt 31, 3, [32]),
  (4, .iload_n 1, 1, []),
  (5, .bipush 6, 2, []),
  (7, .if_icmp .ge 25, 3, [32]),
  (10, .iload_n 2, 1, []),
  (11, .ifCond .lt 21, 3, [32]),
  (14, .iload_n 2, 1, []),
  (15, .iconst 5, 1, []),
  (16, .if_icmp .ge 16, 3, [32]),
  (19, .aload_n 0, 1, []),
  (20, .getfield 11, 3, [236, 0, 0, 0]),
  (23, .iload_n 1, 1, []),
  (24, .iconst 5, 1, []),
  (25, .imul, 1, []),
  (26, .iload_n 2, 1, []),
  (27, .iadd, 1, []),
  (28, .iaload, 1, []),
  (29, .goto 4, 3, [33]),
  (32, .iconst 0, 1, []),
  (33, .ireturn, 1, [0])]
def mr61 (S : Nat → mv_Sp) (P : mv_Post) : mv_Kt := mv_R mv_DF mk61 S (0, 0) P
theorem e61_0 : mr61 S P 0 L st sh M c s = (q_isI (q_gv L 1) ∧ mr61 S P 1 L (q_gv L 1 :: st) sh M c s) := (propext (mv_R_iff (i := .iload_n 1) (len := 1) (ax := []) (by decide +kernel))).trans (q_ldI_eq (K := fun st => mr61 S P 1 L st sh M c s))
theorem e61_1 {x : Int32} : mr61 S P 1 L (.int x :: st) sh M c s = (if x < nI 0 then mr61 S P 32 L st sh M c s else mr61 S P 4 L st sh M c s) := (propext (mv_R_iff (i := .ifCond .lt 31) (len := 3) (ax := [32]) (by decide +kernel))).trans (q_br)
theorem e61_4 : mr61 S P 4 L st sh M c s = (q_isI (q_gv L 1) ∧ mr61 S P 5 L (q_gv L 1 :: st) sh M c s) := (propext (mv_R_iff (i := .iload_n 1) (len := 1) (ax := []) (by decide +kernel))).trans (q_ldI_eq (K := fun st => mr61 S P 5 L st sh M c s))
theorem e61_5 : mr61 S P 5 L st sh M c s = (mr61 S P 7 L (.int (nI 6) :: st) sh M c s) := propext (mv_R_iff (i := .bipush 6) (len := 2) (ax := []) (by decide +kernel))
theorem e61_7 {y : Int32} {x : Int32} : mr61 S P 7 L (.int y :: .int x :: st) sh M c s = (if y ≤ x then mr61 S P 32 L st sh M c s else mr61 S P 10 L st sh M c s) := (propext (mv_R_iff (i := .if_icmp .ge 25) (len := 3) (ax := [32]) (by decide +kernel))).trans (q_br)
theorem e61_10 : mr61 S P 10 L st sh M c s = (q_isI (q_gv L 2) ∧ mr61 S P 11 L (q_gv L 2 :: st) sh M c s) := (propext (mv_R_iff (i := .iload_n 2) (len := 1) (ax := []) (by decide +kernel))).trans (q_ldI_eq (K := fun st => mr61 S P 11 L st sh M c s))
theorem e61_11 {x : Int32} : mr61 S P 11 L (.int x :: st) sh M c s = (if x < nI 0 then mr61 S P 32 L st sh M c s else mr61 S P 14 L st sh M c s) := (propext (mv_R_iff (i := .ifCond .lt 21) (len := 3) (ax := [32]) (by decide +kernel))).trans (q_br)
theorem e61_14 : mr61 S P 14 L st sh M c s = (q_isI (q_gv L 2) ∧ mr61 S P 15 L (q_gv L 2 :: st) sh M c s) := (propext (mv_R_iff (i := .iload_n 2) (len := 1) (ax := []) (by decide +kernel))).trans (q_ldI_eq (K := fun st => mr61 S P 15 L st sh M c s))
theorem e61_15 : mr61 S P 15 L st sh M c s = (mr61 S P 16 L (.int (nI 5) :: st) sh M c s) := propext (mv_R_iff (i := .iconst 5) (len := 1) (ax := []) (by decide +kernel))
theorem e61_16 {y : Int32} {x : Int32} : mr61 S P 16 L (.int y :: .int x :: st) sh M c s = (if y ≤ x then mr61 S P 32 L st sh M c s else mr61 S P 19 L st sh M c s) := (propext (mv_R_iff (i := .if_icmp .ge 16) (len := 3) (ax := [32]) (by decide +kernel))).trans (q_br)
theorem e61_19 : mr61 S P 19 L st sh M c s = (q_isA (q_gv L 0) ∧ mr61 S P 20 L (q_gv L 0 :: st) sh M c s) := (propext (mv_R_iff (i := .aload_n 0) (len := 1) (ax := []) (by decide +kernel))).trans (q_ldA_eq (K := fun st => mr61 S P 20 L st sh M c s))
theorem e61_20 {a : Nat} : mr61 S P 20 L (.ref a :: st) sh M c s = (mv_kgf sh M a 0 0 (mr61 S P) 23 L st c s) := propext (mv_R_iff (i := .getfield 11) (len := 3) (ax := [236, 0, 0, 0]) (by decide +kernel))
theorem e61_23 : mr61 S P 23 L st sh M c s = (q_isI (q_gv L 1) ∧ mr61 S P 24 L (q_gv L 1 :: st) sh M c s) := (propext (mv_R_iff (i := .iload_n 1) (len := 1) (ax := []) (by decide +kernel))).trans (q_ldI_eq (K := fun st => mr61 S P 24 L st sh M c s))
theorem e61_24 : mr61 S P 24 L st sh M c s = (mr61 S P 25 L (.int (nI 5) :: st) sh M c s) := propext (mv_R_iff (i := .iconst 5) (len := 1) (ax := []) (by decide +kernel))
theorem e61_25 {y : Int32} {x : Int32} : mr61 S P 25 L (.int y :: .int x :: st) sh M c s = (mr61 S P 26 L (.int (x * y) :: st) sh M c s) := propext (mv_R_iff (i := .imul) (len := 1) (ax := []) (by decide +kernel))
theorem e61_26 : mr61 S P 26 L st sh M c s = (q_isI (q_gv L 2) ∧ mr61 S P 27 L (q_gv L 2 :: st) sh M c s) := (propext (mv_R_iff (i := .iload_n 2) (len := 1) (ax := []) (by decide +kernel))).trans (q_ldI_eq (K := fun st => mr61 S P 27 L st sh M c s))
theorem e61_27 {y : Int32} {x : Int32} : mr61 S P 27 L (.int y :: .int x :: st) sh M c s = (mr61 S P 28 L (.int (x + y) :: st) sh M c s) := propext (mv_R_iff (i := .iadd) (len := 1) (ax := []) (by decide +kernel))
theorem e61_28 {i : Int32} {a : Nat} : mr61 S P 28 L (.int i :: .ref a :: st) sh M c s = (mv_kld sh M a i (mr61 S P) 29 L st c s) := propext (mv_R_iff (i := .iaload) (len := 1) (ax := []) (by decide +kernel))
theorem e61_29 : mr61 S P 29 L st sh M c s = (mr61 S P 33 L st sh M c s) := propext (mv_R_iff (i := .goto 4) (len := 3) (ax := [33]) (by decide +kernel))
theorem e61_32 : mr61 S P 32 L st sh M c s = (mr61 S P 33 L (.int (nI 0) :: st) sh M c s) := propext (mv_R_iff (i := .iconst 0) (len := 1) (ax := []) (by decide +kernel))
theorem e61_33 {x : Int32} : mr61 S P 33 L [.int x] sh M c s = (mv_nr 0 x ∧ P (some (.int x)) sh M) := propext (mv_R_iff (i := .ireturn) (len := 1) (ax := [0]) (by decide +kernel))
-- 44: Cloth.set(III)V
def mk44 : mv_Cd := [
  (0, .iload_n 1, 1, []),
  (1, .ifCond .lt 29, 3, [30]),
  (4, .iload_n 1, 1, []),
  (5, .bipush 6, 2, []),
  (7, .if_icmp .ge 23, 3, [30]),
  (10, .iload_n 2, 1, []),
  (11, .ifCond .lt 19, 3, [30]),
  (14, .iload_n 2, 1, []),
  (15, .iconst 5, 1, []),
  (16, .if_icmp .ge 14, 3, [30]),
  (19, .aload_n 0, 1, []),
  (20, .getfield 11, 3, [236, 0, 0, 0]),
  (23, .iload_n 1, 1, []),
  (24, .iconst 5, 1, []),
  (25, .imul, 1, []),
  (26, .iload_n 2, 1, []),
  (27, .iadd, 1, []),
  (28, .iload_n 3, 1, []),
  (29, .iastore, 1, []),
  (30, .return_, 1, [])]
def mr44 (S : Nat → mv_Sp) (P : mv_Post) : mv_Kt := mv_R mv_DF mk44 S (0, 0) P
theorem e44_0 : mr44 S P 0 L st sh M c s = (q_isI (q_gv L 1) ∧ mr44 S P 1 L (q_gv L 1 :: st) sh M c s) := (propext (mv_R_iff (i := .iload_n 1) (len := 1) (ax := []) (by decide +kernel))).trans (q_ldI_eq (K := fun st => mr44 S P 1 L st sh M c s))
theorem e44_1 {x : Int32} : mr44 S P 1 L (.int x :: st) sh M c s = (if x < nI 0 then mr44 S P 30 L st sh M c s else mr44 S P 4 L st sh M c s) := (propext (mv_R_iff (i := .ifCond .lt 29) (len := 3) (ax := [30]) (by decide +kernel))).trans (q_br)
theorem e44_4 : mr44 S P 4 L st sh M c s = (q_isI (q_gv L 1) ∧ mr44 S P 5 L (q_gv L 1 :: st) sh M c s) := (propext (mv_R_iff (i := .iload_n 1) (len := 1) (ax := []) (by decide +kernel))).trans (q_ldI_eq (K := fun st => mr44 S P 5 L st sh M c s))
theorem e44_5 : mr44 S P 5 L st sh M c s = (mr44 S P 7 L (.int (nI 6) :: st) sh M c s) := propext (mv_R_iff (i := .bipush 6) (len := 2) (ax := []) (by decide +kernel))
theorem e44_7 {y : Int32} {x : Int32} : mr44 S P 7 L (.int y :: .int x :: st) sh M c s = (if y ≤ x then mr44 S P 30 L st sh M c s else mr44 S P 10 L st sh M c s) := (propext (mv_R_iff (i := .if_icmp .ge 23) (len := 3) (ax := [30]) (by decide +kernel))).trans (q_br)
theorem e44_10 : mr44 S P 10 L st sh M c s = (q_isI (q_gv L 2) ∧ mr44 S P 11 L (q_gv L 2 :: st) sh M c s) := (propext (mv_R_iff (i := .iload_n 2) (len := 1) (ax := []) (by decide +kernel))).trans (q_ldI_eq (K := fun st => mr44 S P 11 L st sh M c s))
theorem e44_11 {x : Int32} : mr44 S P 11 L (.int x :: st) sh M c s = (if x < nI 0 then mr44 S P 30 L st sh M c s else mr44 S P 14 L st sh M c s) := (propext (mv_R_iff (i := .ifCond .lt 19) (len := 3) (ax := [30]) (by decide +kernel))).trans (q_br)
theorem e44_14 : mr44 S P 14 L st sh M c s = (q_isI (q_gv L 2) ∧ mr44 S P 15 L (q_gv L 2 :: st) sh M c s) := (propext (mv_R_iff (i := .iload_n 2) (len := 1) (ax := []) (by decide +kernel))).trans (q_ldI_eq (K := fun st => mr44 S P 15 L st sh M c s))
theorem e44_15 : mr44 S P 15 L st sh M c s = (mr44 S P 16 L (.int (nI 5) :: st) sh M c s) := propext (mv_R_iff (i := .iconst 5) (len := 1) (ax := []) (by decide +kernel))
theorem e44_16 {y : Int32} {x : Int32} : mr44 S P 16 L (.int y :: .int x :: st) sh M c s = (if y ≤ x then mr44 S P 30 L st sh M c s else mr44 S P 19 L st sh M c s) := (propext (mv_R_iff (i := .if_icmp .ge 14) (len := 3) (ax := [30]) (by decide +kernel))).trans (q_br)
theorem e44_19 : mr44 S P 19 L st sh M c s = (q_isA (q_gv L 0) ∧ mr44 S P 20 L (q_gv L 0 :: st) sh M c s) := (propext (mv_R_iff (i := .aload_n 0) (len := 1) (ax := []) (by decide +kernel))).trans (q_ldA_eq (K := fun st => mr44 S P 20 L st sh M c s))
theorem e44_20 {a : Nat} : mr44 S P 20 L (.ref a :: st) sh M c s = (mv_kgf sh M a 0 0 (mr44 S P) 23 L st c s) := propext (mv_R_iff (i := .getfield 11) (len := 3) (ax := [236, 0, 0, 0]) (by decide +kernel))
theorem e44_23 : mr44 S P 23 L st sh M c s = (q_isI (q_gv L 1) ∧ mr44 S P 24 L (q_gv L 1 :: st) sh M c s) := (propext (mv_R_iff (i := .iload_n 1) (len := 1) (ax := []) (by decide +kernel))).trans (q_ldI_eq (K := fun st => mr44 S P 24 L st sh M c s))
theorem e44_24 : mr44 S P 24 L st sh M c s = (mr44 S P 25 L (.int (nI 5) :: st) sh M c s) := propext (mv_R_iff (i := .iconst 5) (len := 1) (ax := []) (by decide +kernel))
theorem e44_25 {y : Int32} {x : Int32} : mr44 S P 25 L (.int y :: .int x :: st) sh M c s = (mr44 S P 26 L (.int (x * y) :: st) sh M c s) := propext (mv_R_iff (i := .imul) (len := 1) (ax := []) (by decide +kernel))
theorem e44_26 : mr44 S P 26 L st sh M c s = (q_isI (q_gv L 2) ∧ mr44 S P 27 L (q_gv L 2 :: st) sh M c s) := (propext (mv_R_iff (i := .iload_n 2) (len := 1) (ax := []) (by decide +kernel))).trans (q_ldI_eq (K := fun st => mr44 S P 27 L st sh M c s))
theorem e44_27 {y : Int32} {x : Int32} : mr44 S P 27 L (.int y :: .int x :: st) sh M c s = (mr44 S P 28 L (.int (x + y) :: st) sh M c s) := propext (mv_R_iff (i := .iadd) (len := 1) (ax := []) (by decide +kernel))
theorem e44_28 : mr44 S P 28 L st sh M c s = (q_isI (q_gv L 3) ∧ mr44 S P 29 L (q_gv L 3 :: st) sh M c s) := (propext (mv_R_iff (i := .iload_n 3) (len := 1) (ax := []) (by decide +kernel))).trans (q_ldI_eq (K := fun st => mr44 S P 29 L st sh M c s))
theorem e44_29 {x : Int32} {i : Int32} {a : Nat} : mr44 S P 29 L (.int x :: .int i :: .ref a :: st) sh M c s = (mv_kst sh M a i x (mr44 S P) 30 L st c s) := propext (mv_R_iff (i := .iastore) (len := 1) (ax := []) (by decide +kernel))
theorem e44_30 : mr44 S P 30 L [] sh M c s = (P none sh M) := propext (mv_R_iff (i := .return_) (len := 1) (ax := []) (by decide +kernel))
-- 68: Cloth.slant(I)I
def mk68 : mv_Cd := [
  (0, .aload_n 0, 1, []),
  (1, .iload_n 1, 1, []),
  (2, .iconst 3, 1, []),
  (3, .invokevirtual 44, 3, [0, 61, 3, 0, 0, 0, 0, 615, 608, 22, 111, 609]),
  (6, .istore_n 2, 1, []),
  (7, .aload_n 0, 1, []),
  (8, .iload_n 1, 1, []),
  (9, .iconst 4, 1, []),
  (10, .invokevirtual 44, 3, [0, 61, 3, 0, 0, 0, 0, 615, 608, 22, 111, 609]),
  (13, .iconst 1, 1, []),
  (14, .if_icmp .ne 9, 3, [23]),
  (17, .iconst 1, 1, []),
  (18, .iload_n 2, 1, []),
  (19, .isub, 1, []),
  (20, .goto 4, 3, [24]),
  (23, .iload_n 2, 1, []),
  (24, .ireturn, 1, [0])]
def mr68 (S : Nat → mv_Sp) (P : mv_Post) : mv_Kt := mv_R mv_DF mk68 S (0, 0) P
theorem e68_0 : mr68 S P 0 L st sh M c s = (q_isA (q_gv L 0) ∧ mr68 S P 1 L (q_gv L 0 :: st) sh M c s) := (propext (mv_R_iff (i := .aload_n 0) (len := 1) (ax := []) (by decide +kernel))).trans (q_ldA_eq (K := fun st => mr68 S P 1 L st sh M c s))
theorem e68_1 : mr68 S P 1 L st sh M c s = (q_isI (q_gv L 1) ∧ mr68 S P 2 L (q_gv L 1 :: st) sh M c s) := (propext (mv_R_iff (i := .iload_n 1) (len := 1) (ax := []) (by decide +kernel))).trans (q_ldI_eq (K := fun st => mr68 S P 2 L st sh M c s))
theorem e68_2 : mr68 S P 2 L st sh M c s = (mr68 S P 3 L (.int (nI 3) :: st) sh M c s) := propext (mv_R_iff (i := .iconst 3) (len := 1) (ax := []) (by decide +kernel))
theorem e68_3 {v3 : Value} {v2 : Value} {v1 : Value} : mr68 S P 3 L (v3 :: v2 :: v1 :: st) sh M c s = (mv_ss st ≤ 8 ∧ c ≤ 0 ∧ s ≤ 0 ∧ mv_isO sh (some v1) 0 ∧ mv_kal S 61 [v1, v2, v3] sh M (mr68 S P) 6 L st c s) := (propext (mv_R_iff (i := .invokevirtual 44) (len := 3) (ax := [0, 61, 3, 0, 0, 0, 0, 615, 608, 22, 111, 609]) (by decide +kernel))).trans (q_call0)
theorem e68_6 {x : Int32} : mr68 S P 6 L (.int x :: st) sh M c s = (q_hs L 2 ∧ mr68 S P 7 (L.set 2 (some (.int x))) st sh M c s) := (propext (mv_R_iff (i := .istore_n 2) (len := 1) (ax := []) (by decide +kernel))).trans (q_st_eq (K := fun L => mr68 S P 7 L st sh M c s))
theorem e68_7 : mr68 S P 7 L st sh M c s = (q_isA (q_gv L 0) ∧ mr68 S P 8 L (q_gv L 0 :: st) sh M c s) := (propext (mv_R_iff (i := .aload_n 0) (len := 1) (ax := []) (by decide +kernel))).trans (q_ldA_eq (K := fun st => mr68 S P 8 L st sh M c s))
theorem e68_8 : mr68 S P 8 L st sh M c s = (q_isI (q_gv L 1) ∧ mr68 S P 9 L (q_gv L 1 :: st) sh M c s) := (propext (mv_R_iff (i := .iload_n 1) (len := 1) (ax := []) (by decide +kernel))).trans (q_ldI_eq (K := fun st => mr68 S P 9 L st sh M c s))
theorem e68_9 : mr68 S P 9 L st sh M c s = (mr68 S P 10 L (.int (nI 4) :: st) sh M c s) := propext (mv_R_iff (i := .iconst 4) (len := 1) (ax := []) (by decide +kernel))
theorem e68_10 {v3 : Value} {v2 : Value} {v1 : Value} : mr68 S P 10 L (v3 :: v2 :: v1 :: st) sh M c s = (mv_ss st ≤ 8 ∧ c ≤ 0 ∧ s ≤ 0 ∧ mv_isO sh (some v1) 0 ∧ mv_kal S 61 [v1, v2, v3] sh M (mr68 S P) 13 L st c s) := (propext (mv_R_iff (i := .invokevirtual 44) (len := 3) (ax := [0, 61, 3, 0, 0, 0, 0, 615, 608, 22, 111, 609]) (by decide +kernel))).trans (q_call0)
theorem e68_13 : mr68 S P 13 L st sh M c s = (mr68 S P 14 L (.int (nI 1) :: st) sh M c s) := propext (mv_R_iff (i := .iconst 1) (len := 1) (ax := []) (by decide +kernel))
theorem e68_14 {y : Int32} {x : Int32} : mr68 S P 14 L (.int y :: .int x :: st) sh M c s = (if x = y then mr68 S P 17 L st sh M c s else mr68 S P 23 L st sh M c s) := (propext (mv_R_iff (i := .if_icmp .ne 9) (len := 3) (ax := [23]) (by decide +kernel))).trans (q_br')
theorem e68_17 : mr68 S P 17 L st sh M c s = (mr68 S P 18 L (.int (nI 1) :: st) sh M c s) := propext (mv_R_iff (i := .iconst 1) (len := 1) (ax := []) (by decide +kernel))
theorem e68_18 : mr68 S P 18 L st sh M c s = (q_isI (q_gv L 2) ∧ mr68 S P 19 L (q_gv L 2 :: st) sh M c s) := (propext (mv_R_iff (i := .iload_n 2) (len := 1) (ax := []) (by decide +kernel))).trans (q_ldI_eq (K := fun st => mr68 S P 19 L st sh M c s))
theorem e68_19 {y : Int32} {x : Int32} : mr68 S P 19 L (.int y :: .int x :: st) sh M c s = (mr68 S P 20 L (.int (x - y) :: st) sh M c s) := propext (mv_R_iff (i := .isub) (len := 1) (ax := []) (by decide +kernel))
theorem e68_20 : mr68 S P 20 L st sh M c s = (mr68 S P 24 L st sh M c s) := propext (mv_R_iff (i := .goto 4) (len := 3) (ax := [24]) (by decide +kernel))
theorem e68_23 : mr68 S P 23 L st sh M c s = (q_isI (q_gv L 2) ∧ mr68 S P 24 L (q_gv L 2 :: st) sh M c s) := (propext (mv_R_iff (i := .iload_n 2) (len := 1) (ax := []) (by decide +kernel))).trans (q_ldI_eq (K := fun st => mr68 S P 24 L st sh M c s))
theorem e68_24 {x : Int32} : mr68 S P 24 L [.int x] sh M c s = (mv_nr 0 x ∧ P (some (.int x)) sh M) := propext (mv_R_iff (i := .ireturn) (len := 1) (ax := [0]) (by decide +kernel))
-- 65: TurnedTablets.topOf(II)I
def mk65 : mv_Cd := [
  (0, .iload_n 1, 1, []),
  (1, .iconst 2, 1, []),
  (2, .iload_n 0, 1, []),
  (3, .imul, 1, []),
  (4, .ishl, 1, []),
  (5, .ireturn, 1, [0])]
def mr65 (S : Nat → mv_Sp) (P : mv_Post) : mv_Kt := mv_R mv_DF mk65 S (0, 0) P
theorem e65_0 : mr65 S P 0 L st sh M c s = (q_isI (q_gv L 1) ∧ mr65 S P 1 L (q_gv L 1 :: st) sh M c s) := (propext (mv_R_iff (i := .iload_n 1) (len := 1) (ax := []) (by decide +kernel))).trans (q_ldI_eq (K := fun st => mr65 S P 1 L st sh M c s))
theorem e65_1 : mr65 S P 1 L st sh M c s = (mr65 S P 2 L (.int (nI 2) :: st) sh M c s) := propext (mv_R_iff (i := .iconst 2) (len := 1) (ax := []) (by decide +kernel))
theorem e65_2 : mr65 S P 2 L st sh M c s = (q_isI (q_gv L 0) ∧ mr65 S P 3 L (q_gv L 0 :: st) sh M c s) := (propext (mv_R_iff (i := .iload_n 0) (len := 1) (ax := []) (by decide +kernel))).trans (q_ldI_eq (K := fun st => mr65 S P 3 L st sh M c s))
theorem e65_3 {y : Int32} {x : Int32} : mr65 S P 3 L (.int y :: .int x :: st) sh M c s = (mr65 S P 4 L (.int (x * y) :: st) sh M c s) := propext (mv_R_iff (i := .imul) (len := 1) (ax := []) (by decide +kernel))
theorem e65_4 {y : Int32} {x : Int32} : mr65 S P 4 L (.int y :: .int x :: st) sh M c s = (mr65 S P 5 L (.int (x <<< (y &&& 31)) :: st) sh M c s) := propext (mv_R_iff (i := .ishl) (len := 1) (ax := []) (by decide +kernel))
theorem e65_5 {x : Int32} : mr65 S P 5 L [.int x] sh M c s = (mv_nr 0 x ∧ P (some (.int x)) sh M) := propext (mv_R_iff (i := .ireturn) (len := 1) (ax := [0]) (by decide +kernel))
-- 51: TurnedTablets.addTops(II)I
def mk51 : mv_Cd := [
  (0, .iload_n 0, 1, []),
  (1, .sipush 1365, 3, []),
  (4, .iand, 1, []),
  (5, .iload_n 1, 1, []),
  (6, .sipush 1365, 3, []),
  (9, .iand, 1, []),
  (10, .iadd, 1, []),
  (11, .iload_n 0, 1, []),
  (12, .iload_n 1, 1, []),
  (13, .ixor, 1, []),
  (14, .sipush 2730, 3, []),
  (17, .iand, 1, []),
  (18, .ixor, 1, []),
  (19, .ireturn, 1, [0])]
def mr51 (S : Nat → mv_Sp) (P : mv_Post) : mv_Kt := mv_R mv_DF mk51 S (0, 0) P
theorem e51_0 : mr51 S P 0 L st sh M c s = (q_isI (q_gv L 0) ∧ mr51 S P 1 L (q_gv L 0 :: st) sh M c s) := (propext (mv_R_iff (i := .iload_n 0) (len := 1) (ax := []) (by decide +kernel))).trans (q_ldI_eq (K := fun st => mr51 S P 1 L st sh M c s))
theorem e51_1 : mr51 S P 1 L st sh M c s = (mr51 S P 4 L (.int (nI 1365) :: st) sh M c s) := propext (mv_R_iff (i := .sipush 1365) (len := 3) (ax := []) (by decide +kernel))
theorem e51_4 {y : Int32} {x : Int32} : mr51 S P 4 L (.int y :: .int x :: st) sh M c s = (mr51 S P 5 L (.int (x &&& y) :: st) sh M c s) := propext (mv_R_iff (i := .iand) (len := 1) (ax := []) (by decide +kernel))
theorem e51_5 : mr51 S P 5 L st sh M c s = (q_isI (q_gv L 1) ∧ mr51 S P 6 L (q_gv L 1 :: st) sh M c s) := (propext (mv_R_iff (i := .iload_n 1) (len := 1) (ax := []) (by decide +kernel))).trans (q_ldI_eq (K := fun st => mr51 S P 6 L st sh M c s))
theorem e51_6 : mr51 S P 6 L st sh M c s = (mr51 S P 9 L (.int (nI 1365) :: st) sh M c s) := propext (mv_R_iff (i := .sipush 1365) (len := 3) (ax := []) (by decide +kernel))
theorem e51_9 {y : Int32} {x : Int32} : mr51 S P 9 L (.int y :: .int x :: st) sh M c s = (mr51 S P 10 L (.int (x &&& y) :: st) sh M c s) := propext (mv_R_iff (i := .iand) (len := 1) (ax := []) (by decide +kernel))
theorem e51_10 {y : Int32} {x : Int32} : mr51 S P 10 L (.int y :: .int x :: st) sh M c s = (mr51 S P 11 L (.int (x + y) :: st) sh M c s) := propext (mv_R_iff (i := .iadd) (len := 1) (ax := []) (by decide +kernel))
theorem e51_11 : mr51 S P 11 L st sh M c s = (q_isI (q_gv L 0) ∧ mr51 S P 12 L (q_gv L 0 :: st) sh M c s) := (propext (mv_R_iff (i := .iload_n 0) (len := 1) (ax := []) (by decide +kernel))).trans (q_ldI_eq (K := fun st => mr51 S P 12 L st sh M c s))
theorem e51_12 : mr51 S P 12 L st sh M c s = (q_isI (q_gv L 1) ∧ mr51 S P 13 L (q_gv L 1 :: st) sh M c s) := (propext (mv_R_iff (i := .iload_n 1) (len := 1) (ax := []) (by decide +kernel))).trans (q_ldI_eq (K := fun st => mr51 S P 13 L st sh M c s))
theorem e51_13 {y : Int32} {x : Int32} : mr51 S P 13 L (.int y :: .int x :: st) sh M c s = (mr51 S P 14 L (.int (x ^^^ y) :: st) sh M c s) := propext (mv_R_iff (i := .ixor) (len := 1) (ax := []) (by decide +kernel))
theorem e51_14 : mr51 S P 14 L st sh M c s = (mr51 S P 17 L (.int (nI 2730) :: st) sh M c s) := propext (mv_R_iff (i := .sipush 2730) (len := 3) (ax := []) (by decide +kernel))
theorem e51_17 {y : Int32} {x : Int32} : mr51 S P 17 L (.int y :: .int x :: st) sh M c s = (mr51 S P 18 L (.int (x &&& y) :: st) sh M c s) := propext (mv_R_iff (i := .iand) (len := 1) (ax := []) (by decide +kernel))
theorem e51_18 {y : Int32} {x : Int32} : mr51 S P 18 L (.int y :: .int x :: st) sh M c s = (mr51 S P 19 L (.int (x ^^^ y) :: st) sh M c s) := propext (mv_R_iff (i := .ixor) (len := 1) (ax := []) (by decide +kernel))
theorem e51_19 {x : Int32} : mr51 S P 19 L [.int x] sh M c s = (mv_nr 0 x ∧ P (some (.int x)) sh M) := propext (mv_R_iff (i := .ireturn) (len := 1) (ax := [0]) (by decide +kernel))
-- 62: Cloth.outcome(LTurnedTablets$Loom;II)I
def mk62 : mv_Cd := [
  (0, .aload_n 1, 1, []),
  (1, .iload_n 2, 1, []),
  (2, .iload_n 3, 1, []),
  (3, .invokevirtual 54, 3, [1, 60, 3, 1, 0, 0, 710, 712, 39, 109, 713]),
  (6, .istore 4, 2, []),
  (8, .iload 4, 2, []),
  (10, .ifCond .ne 5, 3, [15]),
  (13, .iconst 1, 1, []),
  (14, .ireturn, 1, [0]),
  (15, .aload_n 0, 1, []),
  (16, .iload_n 2, 1, []),
  (17, .iconst 1, 1, []),
  (18, .invokevirtual 44, 3, [0, 61, 3, 0, 0, 0, 0, 615, 608, 22, 111, 609]),
  (21, .iload 4, 2, []),
  (23, .iadd, 1, []),
  (24, .invokestatic 57, 3, [12, 715, 716, 114, 717]),
  (27, .aload_n 1, 1, []),
  (28, .getfield 62, 3, [181, 1, 1, 3]),
  (31, .if_icmp .le 7, 3, [38]),
  (34, .iconst 2, 1, []),
  (35, .goto 4, 3, [39]),
  (38, .iconst 0, 1, []),
  (39, .ireturn, 1, [0])]
def mr62 (S : Nat → mv_Sp) (P : mv_Post) : mv_Kt := mv_R mv_DF mk62 S (0, 0) P
theorem e62_0 : mr62 S P 0 L st sh M c s = (q_isA (q_gv L 1) ∧ mr62 S P 1 L (q_gv L 1 :: st) sh M c s) := (propext (mv_R_iff (i := .aload_n 1) (len := 1) (ax := []) (by decide +kernel))).trans (q_ldA_eq (K := fun st => mr62 S P 1 L st sh M c s))
theorem e62_1 : mr62 S P 1 L st sh M c s = (q_isI (q_gv L 2) ∧ mr62 S P 2 L (q_gv L 2 :: st) sh M c s) := (propext (mv_R_iff (i := .iload_n 2) (len := 1) (ax := []) (by decide +kernel))).trans (q_ldI_eq (K := fun st => mr62 S P 2 L st sh M c s))
theorem e62_2 : mr62 S P 2 L st sh M c s = (q_isI (q_gv L 3) ∧ mr62 S P 3 L (q_gv L 3 :: st) sh M c s) := (propext (mv_R_iff (i := .iload_n 3) (len := 1) (ax := []) (by decide +kernel))).trans (q_ldI_eq (K := fun st => mr62 S P 3 L st sh M c s))
theorem e62_3 {v3 : Value} {v2 : Value} {v1 : Value} : mr62 S P 3 L (v3 :: v2 :: v1 :: st) sh M c s = (mv_ss st ≤ 8 ∧ c ≤ 0 ∧ s ≤ 0 ∧ mv_isO sh (some v1) 1 ∧ mv_kal S 60 [v1, v2, v3] sh M (mr62 S P) 6 L st c s) := (propext (mv_R_iff (i := .invokevirtual 54) (len := 3) (ax := [1, 60, 3, 1, 0, 0, 710, 712, 39, 109, 713]) (by decide +kernel))).trans (q_call1)
theorem e62_6 {x : Int32} : mr62 S P 6 L (.int x :: st) sh M c s = (q_hs L 4 ∧ mr62 S P 8 (L.set 4 (some (.int x))) st sh M c s) := (propext (mv_R_iff (i := .istore 4) (len := 2) (ax := []) (by decide +kernel))).trans (q_st_eq (K := fun L => mr62 S P 8 L st sh M c s))
theorem e62_8 : mr62 S P 8 L st sh M c s = (q_isI (q_gv L 4) ∧ mr62 S P 10 L (q_gv L 4 :: st) sh M c s) := (propext (mv_R_iff (i := .iload 4) (len := 2) (ax := []) (by decide +kernel))).trans (q_ldI_eq (K := fun st => mr62 S P 10 L st sh M c s))
theorem e62_10 {x : Int32} : mr62 S P 10 L (.int x :: st) sh M c s = (if x = nI 0 then mr62 S P 13 L st sh M c s else mr62 S P 15 L st sh M c s) := (propext (mv_R_iff (i := .ifCond .ne 5) (len := 3) (ax := [15]) (by decide +kernel))).trans (q_br')
theorem e62_13 : mr62 S P 13 L st sh M c s = (mr62 S P 14 L (.int (nI 1) :: st) sh M c s) := propext (mv_R_iff (i := .iconst 1) (len := 1) (ax := []) (by decide +kernel))
theorem e62_14 {x : Int32} : mr62 S P 14 L [.int x] sh M c s = (mv_nr 0 x ∧ P (some (.int x)) sh M) := propext (mv_R_iff (i := .ireturn) (len := 1) (ax := [0]) (by decide +kernel))
theorem e62_15 : mr62 S P 15 L st sh M c s = (q_isA (q_gv L 0) ∧ mr62 S P 16 L (q_gv L 0 :: st) sh M c s) := (propext (mv_R_iff (i := .aload_n 0) (len := 1) (ax := []) (by decide +kernel))).trans (q_ldA_eq (K := fun st => mr62 S P 16 L st sh M c s))
theorem e62_16 : mr62 S P 16 L st sh M c s = (q_isI (q_gv L 2) ∧ mr62 S P 17 L (q_gv L 2 :: st) sh M c s) := (propext (mv_R_iff (i := .iload_n 2) (len := 1) (ax := []) (by decide +kernel))).trans (q_ldI_eq (K := fun st => mr62 S P 17 L st sh M c s))
theorem e62_17 : mr62 S P 17 L st sh M c s = (mr62 S P 18 L (.int (nI 1) :: st) sh M c s) := propext (mv_R_iff (i := .iconst 1) (len := 1) (ax := []) (by decide +kernel))
theorem e62_18 {v3 : Value} {v2 : Value} {v1 : Value} : mr62 S P 18 L (v3 :: v2 :: v1 :: st) sh M c s = (mv_ss st ≤ 8 ∧ c ≤ 0 ∧ s ≤ 0 ∧ mv_isO sh (some v1) 0 ∧ mv_kal S 61 [v1, v2, v3] sh M (mr62 S P) 21 L st c s) := (propext (mv_R_iff (i := .invokevirtual 44) (len := 3) (ax := [0, 61, 3, 0, 0, 0, 0, 615, 608, 22, 111, 609]) (by decide +kernel))).trans (q_call0)
theorem e62_21 : mr62 S P 21 L st sh M c s = (q_isI (q_gv L 4) ∧ mr62 S P 23 L (q_gv L 4 :: st) sh M c s) := (propext (mv_R_iff (i := .iload 4) (len := 2) (ax := []) (by decide +kernel))).trans (q_ldI_eq (K := fun st => mr62 S P 23 L st sh M c s))
theorem e62_23 {y : Int32} {x : Int32} : mr62 S P 23 L (.int y :: .int x :: st) sh M c s = (mr62 S P 24 L (.int (x + y) :: st) sh M c s) := propext (mv_R_iff (i := .iadd) (len := 1) (ax := []) (by decide +kernel))
theorem e62_24 {x : Int32} : mr62 S P 24 L (.int x :: st) sh M c s = (mv_ss st + 1 ≤ 8 ∧ mr62 S P 27 L (.int (if nI 0 ≤ x then x else nI 0 - x) :: st) sh M c s) := propext (mv_R_iff (i := .invokestatic 57) (len := 3) (ax := [12, 715, 716, 114, 717]) (by decide +kernel))
theorem e62_27 : mr62 S P 27 L st sh M c s = (q_isA (q_gv L 1) ∧ mr62 S P 28 L (q_gv L 1 :: st) sh M c s) := (propext (mv_R_iff (i := .aload_n 1) (len := 1) (ax := []) (by decide +kernel))).trans (q_ldA_eq (K := fun st => mr62 S P 28 L st sh M c s))
theorem e62_28 {a : Nat} : mr62 S P 28 L (.ref a :: st) sh M c s = (mv_kgf sh M a 1 3 (mr62 S P) 31 L st c s) := propext (mv_R_iff (i := .getfield 62) (len := 3) (ax := [181, 1, 1, 3]) (by decide +kernel))
theorem e62_31 {y : Int32} {x : Int32} : mr62 S P 31 L (.int y :: .int x :: st) sh M c s = (if x ≤ y then mr62 S P 38 L st sh M c s else mr62 S P 34 L st sh M c s) := (propext (mv_R_iff (i := .if_icmp .le 7) (len := 3) (ax := [38]) (by decide +kernel))).trans (q_br)
theorem e62_34 : mr62 S P 34 L st sh M c s = (mr62 S P 35 L (.int (nI 2) :: st) sh M c s) := propext (mv_R_iff (i := .iconst 2) (len := 1) (ax := []) (by decide +kernel))
theorem e62_35 : mr62 S P 35 L st sh M c s = (mr62 S P 39 L st sh M c s) := propext (mv_R_iff (i := .goto 4) (len := 3) (ax := [39]) (by decide +kernel))
theorem e62_38 : mr62 S P 38 L st sh M c s = (mr62 S P 39 L (.int (nI 0) :: st) sh M c s) := propext (mv_R_iff (i := .iconst 0) (len := 1) (ax := []) (by decide +kernel))
theorem e62_39 {x : Int32} : mr62 S P 39 L [.int x] sh M c s = (mv_nr 0 x ∧ P (some (.int x)) sh M) := propext (mv_R_iff (i := .ireturn) (len := 1) (ax := [0]) (by decide +kernel))
-- 63: Cloth.turnTablet(LTurnedTablets$Loom;II)I
def mk63 : mv_Cd := [
  (0, .aload_n 0, 1, []),
  (1, .aload_n 1, 1, []),
  (2, .iload_n 2, 1, []),
  (3, .iload_n 3, 1, []),
  (4, .invokevirtual 65, 3, [0, 62, 4, 0, 0, 0, 0, 706, 708, 38, 111, 709]),
  (7, .istore 4, 2, []),
  (9, .iload 4, 2, []),
  (11, .ifCond .ne 59, 3, [70]),
  (14, .aload_n 1, 1, []),
  (15, .iload_n 2, 1, []),
  (16, .iload_n 3, 1, []),
  (17, .invokevirtual 54, 3, [1, 60, 3, 1, 0, 0, 710, 712, 39, 109, 713]),
  (20, .istore 5, 2, []),
  (22, .aload_n 0, 1, []),
  (23, .iload_n 2, 1, []),
  (24, .iconst 0, 1, []),
  (25, .aload_n 0, 1, []),
  (26, .iload_n 2, 1, []),
  (27, .iconst 0, 1, []),
  (28, .invokevirtual 44, 3, [0, 61, 3, 0, 0, 0, 0, 615, 608, 22, 111, 609]),
  (31, .iload 5, 2, []),
  (33, .iadd, 1, []),
  (34, .iconst 3, 1, []),
  (35, .iand, 1, []),
  (36, .invokevirtual 30, 3, [0, 44, 4, 0, 0, 0, 0, 499, 501, 19, 111, 502]),
  (39, .aload_n 0, 1, []),
  (40, .iload_n 2, 1, []),
  (41, .iconst 1, 1, []),
  (42, .aload_n 0, 1, []),
  (43, .iload_n 2, 1, []),
  (44, .iconst 1, 1, []),
  (45, .invokevirtual 44, 3, [0, 61, 3, 0, 0, 0, 0, 615, 608, 22, 111, 609]),
  (48, .iload 5, 2, []),
  (50, .iadd, 1, []),
  (51, .invokevirtual 30, 3, [0, 44, 4, 0, 0, 0, 0, 499, 501, 19, 111, 502]),
  (54, .aload_n 0, 1, []),
  (55, .iload_n 2, 1, []),
  (56, .iconst 4, 1, []),
  (57, .iload 5, 2, []),
  (59, .ifCond .le 7, 3, [66]),
  (62, .iconst 0, 1, []),
  (63, .goto 4, 3, [67]),
  (66, .iconst 1, 1, []),
  (67, .invokevirtual 30, 3, [0, 44, 4, 0, 0, 0, 0, 499, 501, 19, 111, 502]),
  (70, .iload 4, 2, []),
  (72, .ireturn, 1, [0])]
def mr63 (S : Nat → mv_Sp) (P : mv_Post) : mv_Kt := mv_R mv_DF mk63 S (0, 0) P
theorem e63_0 : mr63 S P 0 L st sh M c s = (q_isA (q_gv L 0) ∧ mr63 S P 1 L (q_gv L 0 :: st) sh M c s) := (propext (mv_R_iff (i := .aload_n 0) (len := 1) (ax := []) (by decide +kernel))).trans (q_ldA_eq (K := fun st => mr63 S P 1 L st sh M c s))
theorem e63_1 : mr63 S P 1 L st sh M c s = (q_isA (q_gv L 1) ∧ mr63 S P 2 L (q_gv L 1 :: st) sh M c s) := (propext (mv_R_iff (i := .aload_n 1) (len := 1) (ax := []) (by decide +kernel))).trans (q_ldA_eq (K := fun st => mr63 S P 2 L st sh M c s))
theorem e63_2 : mr63 S P 2 L st sh M c s = (q_isI (q_gv L 2) ∧ mr63 S P 3 L (q_gv L 2 :: st) sh M c s) := (propext (mv_R_iff (i := .iload_n 2) (len := 1) (ax := []) (by decide +kernel))).trans (q_ldI_eq (K := fun st => mr63 S P 3 L st sh M c s))
theorem e63_3 : mr63 S P 3 L st sh M c s = (q_isI (q_gv L 3) ∧ mr63 S P 4 L (q_gv L 3 :: st) sh M c s) := (propext (mv_R_iff (i := .iload_n 3) (len := 1) (ax := []) (by decide +kernel))).trans (q_ldI_eq (K := fun st => mr63 S P 4 L st sh M c s))
theorem e63_4 {v4 : Value} {v3 : Value} {v2 : Value} {v1 : Value} : mr63 S P 4 L (v4 :: v3 :: v2 :: v1 :: st) sh M c s = (mv_ss st ≤ 8 ∧ c ≤ 0 ∧ s ≤ 0 ∧ mv_isO sh (some v1) 0 ∧ mv_kal S 62 [v1, v2, v3, v4] sh M (mr63 S P) 7 L st c s) := (propext (mv_R_iff (i := .invokevirtual 65) (len := 3) (ax := [0, 62, 4, 0, 0, 0, 0, 706, 708, 38, 111, 709]) (by decide +kernel))).trans (q_call0)
theorem e63_7 {x : Int32} : mr63 S P 7 L (.int x :: st) sh M c s = (q_hs L 4 ∧ mr63 S P 9 (L.set 4 (some (.int x))) st sh M c s) := (propext (mv_R_iff (i := .istore 4) (len := 2) (ax := []) (by decide +kernel))).trans (q_st_eq (K := fun L => mr63 S P 9 L st sh M c s))
theorem e63_9 : mr63 S P 9 L st sh M c s = (q_isI (q_gv L 4) ∧ mr63 S P 11 L (q_gv L 4 :: st) sh M c s) := (propext (mv_R_iff (i := .iload 4) (len := 2) (ax := []) (by decide +kernel))).trans (q_ldI_eq (K := fun st => mr63 S P 11 L st sh M c s))
theorem e63_11 {x : Int32} : mr63 S P 11 L (.int x :: st) sh M c s = (if x = nI 0 then mr63 S P 14 L st sh M c s else mr63 S P 70 L st sh M c s) := (propext (mv_R_iff (i := .ifCond .ne 59) (len := 3) (ax := [70]) (by decide +kernel))).trans (q_br')
theorem e63_14 : mr63 S P 14 L st sh M c s = (q_isA (q_gv L 1) ∧ mr63 S P 15 L (q_gv L 1 :: st) sh M c s) := (propext (mv_R_iff (i := .aload_n 1) (len := 1) (ax := []) (by decide +kernel))).trans (q_ldA_eq (K := fun st => mr63 S P 15 L st sh M c s))
theorem e63_15 : mr63 S P 15 L st sh M c s = (q_isI (q_gv L 2) ∧ mr63 S P 16 L (q_gv L 2 :: st) sh M c s) := (propext (mv_R_iff (i := .iload_n 2) (len := 1) (ax := []) (by decide +kernel))).trans (q_ldI_eq (K := fun st => mr63 S P 16 L st sh M c s))
theorem e63_16 : mr63 S P 16 L st sh M c s = (q_isI (q_gv L 3) ∧ mr63 S P 17 L (q_gv L 3 :: st) sh M c s) := (propext (mv_R_iff (i := .iload_n 3) (len := 1) (ax := []) (by decide +kernel))).trans (q_ldI_eq (K := fun st => mr63 S P 17 L st sh M c s))
theorem e63_17 {v3 : Value} {v2 : Value} {v1 : Value} : mr63 S P 17 L (v3 :: v2 :: v1 :: st) sh M c s = (mv_ss st ≤ 8 ∧ c ≤ 0 ∧ s ≤ 0 ∧ mv_isO sh (some v1) 1 ∧ mv_kal S 60 [v1, v2, v3] sh M (mr63 S P) 20 L st c s) := (propext (mv_R_iff (i := .invokevirtual 54) (len := 3) (ax := [1, 60, 3, 1, 0, 0, 710, 712, 39, 109, 713]) (by decide +kernel))).trans (q_call1)
theorem e63_20 {x : Int32} : mr63 S P 20 L (.int x :: st) sh M c s = (q_hs L 5 ∧ mr63 S P 22 (L.set 5 (some (.int x))) st sh M c s) := (propext (mv_R_iff (i := .istore 5) (len := 2) (ax := []) (by decide +kernel))).trans (q_st_eq (K := fun L => mr63 S P 22 L st sh M c s))
theorem e63_22 : mr63 S P 22 L st sh M c s = (q_isA (q_gv L 0) ∧ mr63 S P 23 L (q_gv L 0 :: st) sh M c s) := (propext (mv_R_iff (i := .aload_n 0) (len := 1) (ax := []) (by decide +kernel))).trans (q_ldA_eq (K := fun st => mr63 S P 23 L st sh M c s))
theorem e63_23 : mr63 S P 23 L st sh M c s = (q_isI (q_gv L 2) ∧ mr63 S P 24 L (q_gv L 2 :: st) sh M c s) := (propext (mv_R_iff (i := .iload_n 2) (len := 1) (ax := []) (by decide +kernel))).trans (q_ldI_eq (K := fun st => mr63 S P 24 L st sh M c s))
theorem e63_24 : mr63 S P 24 L st sh M c s = (mr63 S P 25 L (.int (nI 0) :: st) sh M c s) := propext (mv_R_iff (i := .iconst 0) (len := 1) (ax := []) (by decide +kernel))
theorem e63_25 : mr63 S P 25 L st sh M c s = (q_isA (q_gv L 0) ∧ mr63 S P 26 L (q_gv L 0 :: st) sh M c s) := (propext (mv_R_iff (i := .aload_n 0) (len := 1) (ax := []) (by decide +kernel))).trans (q_ldA_eq (K := fun st => mr63 S P 26 L st sh M c s))
theorem e63_26 : mr63 S P 26 L st sh M c s = (q_isI (q_gv L 2) ∧ mr63 S P 27 L (q_gv L 2 :: st) sh M c s) := (propext (mv_R_iff (i := .iload_n 2) (len := 1) (ax := []) (by decide +kernel))).trans (q_ldI_eq (K := fun st => mr63 S P 27 L st sh M c s))
theorem e63_27 : mr63 S P 27 L st sh M c s = (mr63 S P 28 L (.int (nI 0) :: st) sh M c s) := propext (mv_R_iff (i := .iconst 0) (len := 1) (ax := []) (by decide +kernel))
theorem e63_28 {v3 : Value} {v2 : Value} {v1 : Value} : mr63 S P 28 L (v3 :: v2 :: v1 :: st) sh M c s = (mv_ss st ≤ 8 ∧ c ≤ 0 ∧ s ≤ 0 ∧ mv_isO sh (some v1) 0 ∧ mv_kal S 61 [v1, v2, v3] sh M (mr63 S P) 31 L st c s) := (propext (mv_R_iff (i := .invokevirtual 44) (len := 3) (ax := [0, 61, 3, 0, 0, 0, 0, 615, 608, 22, 111, 609]) (by decide +kernel))).trans (q_call0)
theorem e63_31 : mr63 S P 31 L st sh M c s = (q_isI (q_gv L 5) ∧ mr63 S P 33 L (q_gv L 5 :: st) sh M c s) := (propext (mv_R_iff (i := .iload 5) (len := 2) (ax := []) (by decide +kernel))).trans (q_ldI_eq (K := fun st => mr63 S P 33 L st sh M c s))
theorem e63_33 {y : Int32} {x : Int32} : mr63 S P 33 L (.int y :: .int x :: st) sh M c s = (mr63 S P 34 L (.int (x + y) :: st) sh M c s) := propext (mv_R_iff (i := .iadd) (len := 1) (ax := []) (by decide +kernel))
theorem e63_34 : mr63 S P 34 L st sh M c s = (mr63 S P 35 L (.int (nI 3) :: st) sh M c s) := propext (mv_R_iff (i := .iconst 3) (len := 1) (ax := []) (by decide +kernel))
theorem e63_35 {y : Int32} {x : Int32} : mr63 S P 35 L (.int y :: .int x :: st) sh M c s = (mr63 S P 36 L (.int (x &&& y) :: st) sh M c s) := propext (mv_R_iff (i := .iand) (len := 1) (ax := []) (by decide +kernel))
theorem e63_36 {v4 : Value} {v3 : Value} {v2 : Value} {v1 : Value} : mr63 S P 36 L (v4 :: v3 :: v2 :: v1 :: st) sh M c s = (mv_ss st ≤ 8 ∧ c ≤ 0 ∧ s ≤ 0 ∧ mv_isO sh (some v1) 0 ∧ mv_kal S 44 [v1, v2, v3, v4] sh M (mr63 S P) 39 L st c s) := (propext (mv_R_iff (i := .invokevirtual 30) (len := 3) (ax := [0, 44, 4, 0, 0, 0, 0, 499, 501, 19, 111, 502]) (by decide +kernel))).trans (q_call0)
theorem e63_39 : mr63 S P 39 L st sh M c s = (q_isA (q_gv L 0) ∧ mr63 S P 40 L (q_gv L 0 :: st) sh M c s) := (propext (mv_R_iff (i := .aload_n 0) (len := 1) (ax := []) (by decide +kernel))).trans (q_ldA_eq (K := fun st => mr63 S P 40 L st sh M c s))
theorem e63_40 : mr63 S P 40 L st sh M c s = (q_isI (q_gv L 2) ∧ mr63 S P 41 L (q_gv L 2 :: st) sh M c s) := (propext (mv_R_iff (i := .iload_n 2) (len := 1) (ax := []) (by decide +kernel))).trans (q_ldI_eq (K := fun st => mr63 S P 41 L st sh M c s))
theorem e63_41 : mr63 S P 41 L st sh M c s = (mr63 S P 42 L (.int (nI 1) :: st) sh M c s) := propext (mv_R_iff (i := .iconst 1) (len := 1) (ax := []) (by decide +kernel))
theorem e63_42 : mr63 S P 42 L st sh M c s = (q_isA (q_gv L 0) ∧ mr63 S P 43 L (q_gv L 0 :: st) sh M c s) := (propext (mv_R_iff (i := .aload_n 0) (len := 1) (ax := []) (by decide +kernel))).trans (q_ldA_eq (K := fun st => mr63 S P 43 L st sh M c s))
theorem e63_43 : mr63 S P 43 L st sh M c s = (q_isI (q_gv L 2) ∧ mr63 S P 44 L (q_gv L 2 :: st) sh M c s) := (propext (mv_R_iff (i := .iload_n 2) (len := 1) (ax := []) (by decide +kernel))).trans (q_ldI_eq (K := fun st => mr63 S P 44 L st sh M c s))
theorem e63_44 : mr63 S P 44 L st sh M c s = (mr63 S P 45 L (.int (nI 1) :: st) sh M c s) := propext (mv_R_iff (i := .iconst 1) (len := 1) (ax := []) (by decide +kernel))
theorem e63_45 {v3 : Value} {v2 : Value} {v1 : Value} : mr63 S P 45 L (v3 :: v2 :: v1 :: st) sh M c s = (mv_ss st ≤ 8 ∧ c ≤ 0 ∧ s ≤ 0 ∧ mv_isO sh (some v1) 0 ∧ mv_kal S 61 [v1, v2, v3] sh M (mr63 S P) 48 L st c s) := (propext (mv_R_iff (i := .invokevirtual 44) (len := 3) (ax := [0, 61, 3, 0, 0, 0, 0, 615, 608, 22, 111, 609]) (by decide +kernel))).trans (q_call0)
theorem e63_48 : mr63 S P 48 L st sh M c s = (q_isI (q_gv L 5) ∧ mr63 S P 50 L (q_gv L 5 :: st) sh M c s) := (propext (mv_R_iff (i := .iload 5) (len := 2) (ax := []) (by decide +kernel))).trans (q_ldI_eq (K := fun st => mr63 S P 50 L st sh M c s))
theorem e63_50 {y : Int32} {x : Int32} : mr63 S P 50 L (.int y :: .int x :: st) sh M c s = (mr63 S P 51 L (.int (x + y) :: st) sh M c s) := propext (mv_R_iff (i := .iadd) (len := 1) (ax := []) (by decide +kernel))
theorem e63_51 {v4 : Value} {v3 : Value} {v2 : Value} {v1 : Value} : mr63 S P 51 L (v4 :: v3 :: v2 :: v1 :: st) sh M c s = (mv_ss st ≤ 8 ∧ c ≤ 0 ∧ s ≤ 0 ∧ mv_isO sh (some v1) 0 ∧ mv_kal S 44 [v1, v2, v3, v4] sh M (mr63 S P) 54 L st c s) := (propext (mv_R_iff (i := .invokevirtual 30) (len := 3) (ax := [0, 44, 4, 0, 0, 0, 0, 499, 501, 19, 111, 502]) (by decide +kernel))).trans (q_call0)
theorem e63_54 : mr63 S P 54 L st sh M c s = (q_isA (q_gv L 0) ∧ mr63 S P 55 L (q_gv L 0 :: st) sh M c s) := (propext (mv_R_iff (i := .aload_n 0) (len := 1) (ax := []) (by decide +kernel))).trans (q_ldA_eq (K := fun st => mr63 S P 55 L st sh M c s))
theorem e63_55 : mr63 S P 55 L st sh M c s = (q_isI (q_gv L 2) ∧ mr63 S P 56 L (q_gv L 2 :: st) sh M c s) := (propext (mv_R_iff (i := .iload_n 2) (len := 1) (ax := []) (by decide +kernel))).trans (q_ldI_eq (K := fun st => mr63 S P 56 L st sh M c s))
theorem e63_56 : mr63 S P 56 L st sh M c s = (mr63 S P 57 L (.int (nI 4) :: st) sh M c s) := propext (mv_R_iff (i := .iconst 4) (len := 1) (ax := []) (by decide +kernel))
theorem e63_57 : mr63 S P 57 L st sh M c s = (q_isI (q_gv L 5) ∧ mr63 S P 59 L (q_gv L 5 :: st) sh M c s) := (propext (mv_R_iff (i := .iload 5) (len := 2) (ax := []) (by decide +kernel))).trans (q_ldI_eq (K := fun st => mr63 S P 59 L st sh M c s))
theorem e63_59 {x : Int32} : mr63 S P 59 L (.int x :: st) sh M c s = (if x ≤ nI 0 then mr63 S P 66 L st sh M c s else mr63 S P 62 L st sh M c s) := (propext (mv_R_iff (i := .ifCond .le 7) (len := 3) (ax := [66]) (by decide +kernel))).trans (q_br)
theorem e63_62 : mr63 S P 62 L st sh M c s = (mr63 S P 63 L (.int (nI 0) :: st) sh M c s) := propext (mv_R_iff (i := .iconst 0) (len := 1) (ax := []) (by decide +kernel))
theorem e63_63 : mr63 S P 63 L st sh M c s = (mr63 S P 67 L st sh M c s) := propext (mv_R_iff (i := .goto 4) (len := 3) (ax := [67]) (by decide +kernel))
theorem e63_66 : mr63 S P 66 L st sh M c s = (mr63 S P 67 L (.int (nI 1) :: st) sh M c s) := propext (mv_R_iff (i := .iconst 1) (len := 1) (ax := []) (by decide +kernel))
theorem e63_67 {v4 : Value} {v3 : Value} {v2 : Value} {v1 : Value} : mr63 S P 67 L (v4 :: v3 :: v2 :: v1 :: st) sh M c s = (mv_ss st ≤ 8 ∧ c ≤ 0 ∧ s ≤ 0 ∧ mv_isO sh (some v1) 0 ∧ mv_kal S 44 [v1, v2, v3, v4] sh M (mr63 S P) 70 L st c s) := (propext (mv_R_iff (i := .invokevirtual 30) (len := 3) (ax := [0, 44, 4, 0, 0, 0, 0, 499, 501, 19, 111, 502]) (by decide +kernel))).trans (q_call0)
theorem e63_70 : mr63 S P 70 L st sh M c s = (q_isI (q_gv L 4) ∧ mr63 S P 72 L (q_gv L 4 :: st) sh M c s) := (propext (mv_R_iff (i := .iload 4) (len := 2) (ax := []) (by decide +kernel))).trans (q_ldI_eq (K := fun st => mr63 S P 72 L st sh M c s))
theorem e63_72 {x : Int32} : mr63 S P 72 L [.int x] sh M c s = (mv_nr 0 x ∧ P (some (.int x)) sh M) := propext (mv_R_iff (i := .ireturn) (len := 1) (ax := [0]) (by decide +kernel))
-- 66: Cloth.tops()I
def mk66 : mv_Cd := [
  (0, .iconst 0, 1, []),
  (1, .istore_n 1, 1, []),
  (2, .iconst 0, 1, []),
  (3, .istore_n 2, 1, []),
  (4, .iload_n 2, 1, []),
  (5, .bipush 6, 2, []),
  (7, .if_icmp .ge 22, 3, [29]),
  (10, .iload_n 1, 1, []),
  (11, .iload_n 2, 1, []),
  (12, .aload_n 0, 1, []),
  (13, .iload_n 2, 1, []),
  (14, .iconst 0, 1, []),
  (15, .invokevirtual 44, 3, [0, 61, 3, 0, 0, 0, 0, 615, 608, 22, 111, 609]),
  (18, .invokestatic 51, 3, [4, 65, 2, 0, 0, 0, 648, 649, 104, 650]),
  (21, .ior, 1, []),
  (22, .istore_n 1, 1, []),
  (23, .iinc 2 1, 3, []),
  (26, .goto (-22), 3, [4]),
  (29, .iload_n 1, 1, []),
  (30, .ireturn, 1, [0])]
def mr66 (S : Nat → mv_Sp) (P : mv_Post) : mv_Kt := mv_R mv_DF mk66 S (0, 0) P
theorem e66_0 : mr66 S P 0 L st sh M c s = (mr66 S P 1 L (.int (nI 0) :: st) sh M c s) := propext (mv_R_iff (i := .iconst 0) (len := 1) (ax := []) (by decide +kernel))
theorem e66_1 {x : Int32} : mr66 S P 1 L (.int x :: st) sh M c s = (q_hs L 1 ∧ mr66 S P 2 (L.set 1 (some (.int x))) st sh M c s) := (propext (mv_R_iff (i := .istore_n 1) (len := 1) (ax := []) (by decide +kernel))).trans (q_st_eq (K := fun L => mr66 S P 2 L st sh M c s))
theorem e66_2 : mr66 S P 2 L st sh M c s = (mr66 S P 3 L (.int (nI 0) :: st) sh M c s) := propext (mv_R_iff (i := .iconst 0) (len := 1) (ax := []) (by decide +kernel))
theorem e66_3 {x : Int32} : mr66 S P 3 L (.int x :: st) sh M c s = (q_hs L 2 ∧ mr66 S P 4 (L.set 2 (some (.int x))) st sh M c s) := (propext (mv_R_iff (i := .istore_n 2) (len := 1) (ax := []) (by decide +kernel))).trans (q_st_eq (K := fun L => mr66 S P 4 L st sh M c s))
theorem e66_4 : mr66 S P 4 L st sh M c s = (q_isI (q_gv L 2) ∧ mr66 S P 5 L (q_gv L 2 :: st) sh M c s) := (propext (mv_R_iff (i := .iload_n 2) (len := 1) (ax := []) (by decide +kernel))).trans (q_ldI_eq (K := fun st => mr66 S P 5 L st sh M c s))
theorem e66_5 : mr66 S P 5 L st sh M c s = (mr66 S P 7 L (.int (nI 6) :: st) sh M c s) := propext (mv_R_iff (i := .bipush 6) (len := 2) (ax := []) (by decide +kernel))
theorem e66_7 {y : Int32} {x : Int32} : mr66 S P 7 L (.int y :: .int x :: st) sh M c s = (if y ≤ x then mr66 S P 29 L st sh M c s else mr66 S P 10 L st sh M c s) := (propext (mv_R_iff (i := .if_icmp .ge 22) (len := 3) (ax := [29]) (by decide +kernel))).trans (q_br)
theorem e66_10 : mr66 S P 10 L st sh M c s = (q_isI (q_gv L 1) ∧ mr66 S P 11 L (q_gv L 1 :: st) sh M c s) := (propext (mv_R_iff (i := .iload_n 1) (len := 1) (ax := []) (by decide +kernel))).trans (q_ldI_eq (K := fun st => mr66 S P 11 L st sh M c s))
theorem e66_11 : mr66 S P 11 L st sh M c s = (q_isI (q_gv L 2) ∧ mr66 S P 12 L (q_gv L 2 :: st) sh M c s) := (propext (mv_R_iff (i := .iload_n 2) (len := 1) (ax := []) (by decide +kernel))).trans (q_ldI_eq (K := fun st => mr66 S P 12 L st sh M c s))
theorem e66_12 : mr66 S P 12 L st sh M c s = (q_isA (q_gv L 0) ∧ mr66 S P 13 L (q_gv L 0 :: st) sh M c s) := (propext (mv_R_iff (i := .aload_n 0) (len := 1) (ax := []) (by decide +kernel))).trans (q_ldA_eq (K := fun st => mr66 S P 13 L st sh M c s))
theorem e66_13 : mr66 S P 13 L st sh M c s = (q_isI (q_gv L 2) ∧ mr66 S P 14 L (q_gv L 2 :: st) sh M c s) := (propext (mv_R_iff (i := .iload_n 2) (len := 1) (ax := []) (by decide +kernel))).trans (q_ldI_eq (K := fun st => mr66 S P 14 L st sh M c s))
theorem e66_14 : mr66 S P 14 L st sh M c s = (mr66 S P 15 L (.int (nI 0) :: st) sh M c s) := propext (mv_R_iff (i := .iconst 0) (len := 1) (ax := []) (by decide +kernel))
theorem e66_15 {v3 : Value} {v2 : Value} {v1 : Value} : mr66 S P 15 L (v3 :: v2 :: v1 :: st) sh M c s = (mv_ss st ≤ 8 ∧ c ≤ 0 ∧ s ≤ 0 ∧ mv_isO sh (some v1) 0 ∧ mv_kal S 61 [v1, v2, v3] sh M (mr66 S P) 18 L st c s) := (propext (mv_R_iff (i := .invokevirtual 44) (len := 3) (ax := [0, 61, 3, 0, 0, 0, 0, 615, 608, 22, 111, 609]) (by decide +kernel))).trans (q_call0)
theorem e66_18 {v2 : Value} {v1 : Value} : mr66 S P 18 L (v2 :: v1 :: st) sh M c s = (mv_ss st ≤ 8 ∧ c ≤ 0 ∧ s ≤ 0 ∧ True ∧ mv_kal S 65 [v1, v2] sh M (mr66 S P) 21 L st c s) := (propext (mv_R_iff (i := .invokestatic 51) (len := 3) (ax := [4, 65, 2, 0, 0, 0, 648, 649, 104, 650]) (by decide +kernel))).trans (q_call4)
theorem e66_21 {y : Int32} {x : Int32} : mr66 S P 21 L (.int y :: .int x :: st) sh M c s = (mr66 S P 22 L (.int (x ||| y) :: st) sh M c s) := propext (mv_R_iff (i := .ior) (len := 1) (ax := []) (by decide +kernel))
theorem e66_22 {x : Int32} : mr66 S P 22 L (.int x :: st) sh M c s = (q_hs L 1 ∧ mr66 S P 23 (L.set 1 (some (.int x))) st sh M c s) := (propext (mv_R_iff (i := .istore_n 1) (len := 1) (ax := []) (by decide +kernel))).trans (q_st_eq (K := fun L => mr66 S P 23 L st sh M c s))
theorem e66_23 : mr66 S P 23 L st sh M c s = ((q_isI (q_gv L 2) ∧ q_hs L 2) ∧ mr66 S P 26 (L.set 2 (some (q_inc (q_gv L 2) (nI 1)))) st sh M c s) := (propext (mv_R_iff (i := .iinc 2 1) (len := 3) (ax := []) (by decide +kernel))).trans (q_inc_eq (K := fun L => mr66 S P 26 L st sh M c s))
theorem e66_26 : mr66 S P 26 L st sh M c s = (mr66 S P 4 L st sh M c s) := propext (mv_R_iff (i := .goto (-22)) (len := 3) (ax := [4]) (by decide +kernel))
theorem e66_29 : mr66 S P 29 L st sh M c s = (q_isI (q_gv L 1) ∧ mr66 S P 30 L (q_gv L 1 :: st) sh M c s) := (propext (mv_R_iff (i := .iload_n 1) (len := 1) (ax := []) (by decide +kernel))).trans (q_ldI_eq (K := fun st => mr66 S P 30 L st sh M c s))
theorem e66_30 {x : Int32} : mr66 S P 30 L [.int x] sh M c s = (mv_nr 0 x ∧ P (some (.int x)) sh M) := propext (mv_R_iff (i := .ireturn) (len := 1) (ax := [0]) (by decide +kernel))
-- 67: Loom.coloursOf(I)I
def mk67 : mv_Cd := [
  (0, .iconst 0, 1, []),
  (1, .istore_n 2, 1, []),
  (2, .iconst 0, 1, []),
  (3, .istore_n 3, 1, []),
  (4, .iload_n 3, 1, []),
  (5, .aload_n 0, 1, []),
  (6, .getfield 30, 3, [167, 0, 1, 0]),
  (9, .if_icmp .ge 27, 3, [36]),
  (12, .iload_n 2, 1, []),
  (13, .bipush 10, 2, []),
  (15, .imul, 1, []),
  (16, .aload_n 0, 1, []),
  (17, .iload_n 3, 1, []),
  (18, .iload_n 1, 1, []),
  (19, .iconst 2, 1, []),
  (20, .iload_n 3, 1, []),
  (21, .imul, 1, []),
  (22, .ishr, 1, []),
  (23, .iconst 3, 1, []),
  (24, .iand, 1, []),
  (25, .invokevirtual 60, 3, [0, 29, 3, 1, 0, 0, 0, 456, 458, 10, 109, 459]),
  (28, .iadd, 1, []),
  (29, .istore_n 2, 1, []),
  (30, .iinc 3 1, 3, []),
  (33, .goto (-29), 3, [4]),
  (36, .iload_n 2, 1, []),
  (37, .ireturn, 1, [0])]
def mr67 (S : Nat → mv_Sp) (P : mv_Post) : mv_Kt := mv_R mv_DF mk67 S (0, 0) P
theorem e67_0 : mr67 S P 0 L st sh M c s = (mr67 S P 1 L (.int (nI 0) :: st) sh M c s) := propext (mv_R_iff (i := .iconst 0) (len := 1) (ax := []) (by decide +kernel))
theorem e67_1 {x : Int32} : mr67 S P 1 L (.int x :: st) sh M c s = (q_hs L 2 ∧ mr67 S P 2 (L.set 2 (some (.int x))) st sh M c s) := (propext (mv_R_iff (i := .istore_n 2) (len := 1) (ax := []) (by decide +kernel))).trans (q_st_eq (K := fun L => mr67 S P 2 L st sh M c s))
theorem e67_2 : mr67 S P 2 L st sh M c s = (mr67 S P 3 L (.int (nI 0) :: st) sh M c s) := propext (mv_R_iff (i := .iconst 0) (len := 1) (ax := []) (by decide +kernel))
theorem e67_3 {x : Int32} : mr67 S P 3 L (.int x :: st) sh M c s = (q_hs L 3 ∧ mr67 S P 4 (L.set 3 (some (.int x))) st sh M c s) := (propext (mv_R_iff (i := .istore_n 3) (len := 1) (ax := []) (by decide +kernel))).trans (q_st_eq (K := fun L => mr67 S P 4 L st sh M c s))
theorem e67_4 : mr67 S P 4 L st sh M c s = (q_isI (q_gv L 3) ∧ mr67 S P 5 L (q_gv L 3 :: st) sh M c s) := (propext (mv_R_iff (i := .iload_n 3) (len := 1) (ax := []) (by decide +kernel))).trans (q_ldI_eq (K := fun st => mr67 S P 5 L st sh M c s))
theorem e67_5 : mr67 S P 5 L st sh M c s = (q_isA (q_gv L 0) ∧ mr67 S P 6 L (q_gv L 0 :: st) sh M c s) := (propext (mv_R_iff (i := .aload_n 0) (len := 1) (ax := []) (by decide +kernel))).trans (q_ldA_eq (K := fun st => mr67 S P 6 L st sh M c s))
theorem e67_6 {a : Nat} : mr67 S P 6 L (.ref a :: st) sh M c s = (mv_kgf sh M a 1 0 (mr67 S P) 9 L st c s) := propext (mv_R_iff (i := .getfield 30) (len := 3) (ax := [167, 0, 1, 0]) (by decide +kernel))
theorem e67_9 {y : Int32} {x : Int32} : mr67 S P 9 L (.int y :: .int x :: st) sh M c s = (if y ≤ x then mr67 S P 36 L st sh M c s else mr67 S P 12 L st sh M c s) := (propext (mv_R_iff (i := .if_icmp .ge 27) (len := 3) (ax := [36]) (by decide +kernel))).trans (q_br)
theorem e67_12 : mr67 S P 12 L st sh M c s = (q_isI (q_gv L 2) ∧ mr67 S P 13 L (q_gv L 2 :: st) sh M c s) := (propext (mv_R_iff (i := .iload_n 2) (len := 1) (ax := []) (by decide +kernel))).trans (q_ldI_eq (K := fun st => mr67 S P 13 L st sh M c s))
theorem e67_13 : mr67 S P 13 L st sh M c s = (mr67 S P 15 L (.int (nI 10) :: st) sh M c s) := propext (mv_R_iff (i := .bipush 10) (len := 2) (ax := []) (by decide +kernel))
theorem e67_15 {y : Int32} {x : Int32} : mr67 S P 15 L (.int y :: .int x :: st) sh M c s = (mr67 S P 16 L (.int (x * y) :: st) sh M c s) := propext (mv_R_iff (i := .imul) (len := 1) (ax := []) (by decide +kernel))
theorem e67_16 : mr67 S P 16 L st sh M c s = (q_isA (q_gv L 0) ∧ mr67 S P 17 L (q_gv L 0 :: st) sh M c s) := (propext (mv_R_iff (i := .aload_n 0) (len := 1) (ax := []) (by decide +kernel))).trans (q_ldA_eq (K := fun st => mr67 S P 17 L st sh M c s))
theorem e67_17 : mr67 S P 17 L st sh M c s = (q_isI (q_gv L 3) ∧ mr67 S P 18 L (q_gv L 3 :: st) sh M c s) := (propext (mv_R_iff (i := .iload_n 3) (len := 1) (ax := []) (by decide +kernel))).trans (q_ldI_eq (K := fun st => mr67 S P 18 L st sh M c s))
theorem e67_18 : mr67 S P 18 L st sh M c s = (q_isI (q_gv L 1) ∧ mr67 S P 19 L (q_gv L 1 :: st) sh M c s) := (propext (mv_R_iff (i := .iload_n 1) (len := 1) (ax := []) (by decide +kernel))).trans (q_ldI_eq (K := fun st => mr67 S P 19 L st sh M c s))
theorem e67_19 : mr67 S P 19 L st sh M c s = (mr67 S P 20 L (.int (nI 2) :: st) sh M c s) := propext (mv_R_iff (i := .iconst 2) (len := 1) (ax := []) (by decide +kernel))
theorem e67_20 : mr67 S P 20 L st sh M c s = (q_isI (q_gv L 3) ∧ mr67 S P 21 L (q_gv L 3 :: st) sh M c s) := (propext (mv_R_iff (i := .iload_n 3) (len := 1) (ax := []) (by decide +kernel))).trans (q_ldI_eq (K := fun st => mr67 S P 21 L st sh M c s))
theorem e67_21 {y : Int32} {x : Int32} : mr67 S P 21 L (.int y :: .int x :: st) sh M c s = (mr67 S P 22 L (.int (x * y) :: st) sh M c s) := propext (mv_R_iff (i := .imul) (len := 1) (ax := []) (by decide +kernel))
theorem e67_22 {y : Int32} {x : Int32} : mr67 S P 22 L (.int y :: .int x :: st) sh M c s = (mr67 S P 23 L (.int (x >>> (y &&& 31)) :: st) sh M c s) := propext (mv_R_iff (i := .ishr) (len := 1) (ax := []) (by decide +kernel))
theorem e67_23 : mr67 S P 23 L st sh M c s = (mr67 S P 24 L (.int (nI 3) :: st) sh M c s) := propext (mv_R_iff (i := .iconst 3) (len := 1) (ax := []) (by decide +kernel))
theorem e67_24 {y : Int32} {x : Int32} : mr67 S P 24 L (.int y :: .int x :: st) sh M c s = (mr67 S P 25 L (.int (x &&& y) :: st) sh M c s) := propext (mv_R_iff (i := .iand) (len := 1) (ax := []) (by decide +kernel))
theorem e67_25 {v3 : Value} {v2 : Value} {v1 : Value} : mr67 S P 25 L (v3 :: v2 :: v1 :: st) sh M c s = (mv_ss st ≤ 8 ∧ c ≤ 0 ∧ s ≤ 0 ∧ mv_isO sh (some v1) 1 ∧ mv_kal S 29 [v1, v2, v3] sh M (mr67 S P) 28 L st c s) := (propext (mv_R_iff (i := .invokevirtual 60) (len := 3) (ax := [0, 29, 3, 1, 0, 0, 0, 456, 458, 10, 109, 459]) (by decide +kernel))).trans (q_call0)
theorem e67_28 {y : Int32} {x : Int32} : mr67 S P 28 L (.int y :: .int x :: st) sh M c s = (mr67 S P 29 L (.int (x + y) :: st) sh M c s) := propext (mv_R_iff (i := .iadd) (len := 1) (ax := []) (by decide +kernel))
theorem e67_29 {x : Int32} : mr67 S P 29 L (.int x :: st) sh M c s = (q_hs L 2 ∧ mr67 S P 30 (L.set 2 (some (.int x))) st sh M c s) := (propext (mv_R_iff (i := .istore_n 2) (len := 1) (ax := []) (by decide +kernel))).trans (q_st_eq (K := fun L => mr67 S P 30 L st sh M c s))
theorem e67_30 : mr67 S P 30 L st sh M c s = ((q_isI (q_gv L 3) ∧ q_hs L 3) ∧ mr67 S P 33 (L.set 3 (some (q_inc (q_gv L 3) (nI 1)))) st sh M c s) := (propext (mv_R_iff (i := .iinc 3 1) (len := 3) (ax := []) (by decide +kernel))).trans (q_inc_eq (K := fun L => mr67 S P 33 L st sh M c s))
theorem e67_33 : mr67 S P 33 L st sh M c s = (mr67 S P 4 L st sh M c s) := propext (mv_R_iff (i := .goto (-29)) (len := 3) (ax := [4]) (by decide +kernel))
theorem e67_36 : mr67 S P 36 L st sh M c s = (q_isI (q_gv L 2) ∧ mr67 S P 37 L (q_gv L 2 :: st) sh M c s) := (propext (mv_R_iff (i := .iload_n 2) (len := 1) (ax := []) (by decide +kernel))).trans (q_ldI_eq (K := fun st => mr67 S P 37 L st sh M c s))
theorem e67_37 {x : Int32} : mr67 S P 37 L [.int x] sh M c s = (mv_nr 0 x ∧ P (some (.int x)) sh M) := propext (mv_R_iff (i := .ireturn) (len := 1) (ax := [0]) (by decide +kernel))
-- 69: Cloth.slants(I)I
def mk69 : mv_Cd := [
  (0, .iconst 0, 1, []),
  (1, .istore_n 2, 1, []),
  (2, .iconst 0, 1, []),
  (3, .istore_n 3, 1, []),
  (4, .iload_n 3, 1, []),
  (5, .iload_n 1, 1, []),
  (6, .if_icmp .ge 19, 3, [25]),
  (9, .iload_n 2, 1, []),
  (10, .aload_n 0, 1, []),
  (11, .iload_n 3, 1, []),
  (12, .invokevirtual 48, 3, [0, 68, 2, 0, 0, 0, 0, 659, 613, 23, 111, 614]),
  (15, .iload_n 3, 1, []),
  (16, .ishl, 1, []),
  (17, .ior, 1, []),
  (18, .istore_n 2, 1, []),
  (19, .iinc 3 1, 3, []),
  (22, .goto (-18), 3, [4]),
  (25, .iload_n 2, 1, []),
  (26, .ireturn, 1, [0])]
def mr69 (S : Nat → mv_Sp) (P : mv_Post) : mv_Kt := mv_R mv_DF mk69 S (0, 0) P
theorem e69_0 : mr69 S P 0 L st sh M c s = (mr69 S P 1 L (.int (nI 0) :: st) sh M c s) := propext (mv_R_iff (i := .iconst 0) (len := 1) (ax := []) (by decide +kernel))
theorem e69_1 {x : Int32} : mr69 S P 1 L (.int x :: st) sh M c s = (q_hs L 2 ∧ mr69 S P 2 (L.set 2 (some (.int x))) st sh M c s) := (propext (mv_R_iff (i := .istore_n 2) (len := 1) (ax := []) (by decide +kernel))).trans (q_st_eq (K := fun L => mr69 S P 2 L st sh M c s))
theorem e69_2 : mr69 S P 2 L st sh M c s = (mr69 S P 3 L (.int (nI 0) :: st) sh M c s) := propext (mv_R_iff (i := .iconst 0) (len := 1) (ax := []) (by decide +kernel))
theorem e69_3 {x : Int32} : mr69 S P 3 L (.int x :: st) sh M c s = (q_hs L 3 ∧ mr69 S P 4 (L.set 3 (some (.int x))) st sh M c s) := (propext (mv_R_iff (i := .istore_n 3) (len := 1) (ax := []) (by decide +kernel))).trans (q_st_eq (K := fun L => mr69 S P 4 L st sh M c s))
theorem e69_4 : mr69 S P 4 L st sh M c s = (q_isI (q_gv L 3) ∧ mr69 S P 5 L (q_gv L 3 :: st) sh M c s) := (propext (mv_R_iff (i := .iload_n 3) (len := 1) (ax := []) (by decide +kernel))).trans (q_ldI_eq (K := fun st => mr69 S P 5 L st sh M c s))
theorem e69_5 : mr69 S P 5 L st sh M c s = (q_isI (q_gv L 1) ∧ mr69 S P 6 L (q_gv L 1 :: st) sh M c s) := (propext (mv_R_iff (i := .iload_n 1) (len := 1) (ax := []) (by decide +kernel))).trans (q_ldI_eq (K := fun st => mr69 S P 6 L st sh M c s))
theorem e69_6 {y : Int32} {x : Int32} : mr69 S P 6 L (.int y :: .int x :: st) sh M c s = (if y ≤ x then mr69 S P 25 L st sh M c s else mr69 S P 9 L st sh M c s) := (propext (mv_R_iff (i := .if_icmp .ge 19) (len := 3) (ax := [25]) (by decide +kernel))).trans (q_br)
theorem e69_9 : mr69 S P 9 L st sh M c s = (q_isI (q_gv L 2) ∧ mr69 S P 10 L (q_gv L 2 :: st) sh M c s) := (propext (mv_R_iff (i := .iload_n 2) (len := 1) (ax := []) (by decide +kernel))).trans (q_ldI_eq (K := fun st => mr69 S P 10 L st sh M c s))
theorem e69_10 : mr69 S P 10 L st sh M c s = (q_isA (q_gv L 0) ∧ mr69 S P 11 L (q_gv L 0 :: st) sh M c s) := (propext (mv_R_iff (i := .aload_n 0) (len := 1) (ax := []) (by decide +kernel))).trans (q_ldA_eq (K := fun st => mr69 S P 11 L st sh M c s))
theorem e69_11 : mr69 S P 11 L st sh M c s = (q_isI (q_gv L 3) ∧ mr69 S P 12 L (q_gv L 3 :: st) sh M c s) := (propext (mv_R_iff (i := .iload_n 3) (len := 1) (ax := []) (by decide +kernel))).trans (q_ldI_eq (K := fun st => mr69 S P 12 L st sh M c s))
theorem e69_12 {v2 : Value} {v1 : Value} : mr69 S P 12 L (v2 :: v1 :: st) sh M c s = (mv_ss st ≤ 8 ∧ c ≤ 0 ∧ s ≤ 0 ∧ mv_isO sh (some v1) 0 ∧ mv_kal S 68 [v1, v2] sh M (mr69 S P) 15 L st c s) := (propext (mv_R_iff (i := .invokevirtual 48) (len := 3) (ax := [0, 68, 2, 0, 0, 0, 0, 659, 613, 23, 111, 614]) (by decide +kernel))).trans (q_call0)
theorem e69_15 : mr69 S P 15 L st sh M c s = (q_isI (q_gv L 3) ∧ mr69 S P 16 L (q_gv L 3 :: st) sh M c s) := (propext (mv_R_iff (i := .iload_n 3) (len := 1) (ax := []) (by decide +kernel))).trans (q_ldI_eq (K := fun st => mr69 S P 16 L st sh M c s))
theorem e69_16 {y : Int32} {x : Int32} : mr69 S P 16 L (.int y :: .int x :: st) sh M c s = (mr69 S P 17 L (.int (x <<< (y &&& 31)) :: st) sh M c s) := propext (mv_R_iff (i := .ishl) (len := 1) (ax := []) (by decide +kernel))
theorem e69_17 {y : Int32} {x : Int32} : mr69 S P 17 L (.int y :: .int x :: st) sh M c s = (mr69 S P 18 L (.int (x ||| y) :: st) sh M c s) := propext (mv_R_iff (i := .ior) (len := 1) (ax := []) (by decide +kernel))
theorem e69_18 {x : Int32} : mr69 S P 18 L (.int x :: st) sh M c s = (q_hs L 2 ∧ mr69 S P 19 (L.set 2 (some (.int x))) st sh M c s) := (propext (mv_R_iff (i := .istore_n 2) (len := 1) (ax := []) (by decide +kernel))).trans (q_st_eq (K := fun L => mr69 S P 19 L st sh M c s))
theorem e69_19 : mr69 S P 19 L st sh M c s = ((q_isI (q_gv L 3) ∧ q_hs L 3) ∧ mr69 S P 22 (L.set 3 (some (q_inc (q_gv L 3) (nI 1)))) st sh M c s) := (propext (mv_R_iff (i := .iinc 3 1) (len := 3) (ax := []) (by decide +kernel))).trans (q_inc_eq (K := fun L => mr69 S P 22 L st sh M c s))
theorem e69_22 : mr69 S P 22 L st sh M c s = (mr69 S P 4 L st sh M c s) := propext (mv_R_iff (i := .goto (-18)) (len := 3) (ax := [4]) (by decide +kernel))
theorem e69_25 : mr69 S P 25 L st sh M c s = (q_isI (q_gv L 2) ∧ mr69 S P 26 L (q_gv L 2 :: st) sh M c s) := (propext (mv_R_iff (i := .iload_n 2) (len := 1) (ax := []) (by decide +kernel))).trans (q_ldI_eq (K := fun st => mr69 S P 26 L st sh M c s))
theorem e69_26 {x : Int32} : mr69 S P 26 L [.int x] sh M c s = (mv_nr 0 x ∧ P (some (.int x)) sh M) := propext (mv_R_iff (i := .ireturn) (len := 1) (ax := [0]) (by decide +kernel))
-- 64: Cloth.turnPack(LTurnedTablets$Loom;II)I
def mk64 : mv_Cd := [
  (0, .iconst 0, 1, []),
  (1, .istore 4, 2, []),
  (3, .iconst 0, 1, []),
  (4, .istore 5, 2, []),
  (6, .iload 5, 2, []),
  (8, .aload_n 1, 1, []),
  (9, .getfield 72, 3, [170, 1, 1, 0]),
  (12, .if_icmp .ge 72, 3, [84]),
  (15, .aload_n 1, 1, []),
  (16, .iload_n 2, 1, []),
  (17, .iload 5, 2, []),
  (19, .invokevirtual 75, 3, [1, 58, 3, 1, 0, 0, 697, 699, 36, 109, 700]),
  (22, .ifCond .eq 14, 3, [36]),
  (25, .aload_n 0, 1, []),
  (26, .aload_n 1, 1, []),
  (27, .iload 5, 2, []),
  (29, .iload_n 3, 1, []),
  (30, .invokevirtual 79, 3, [0, 63, 4, 0, 0, 0, 0, 702, 704, 37, 111, 705]),
  (33, .goto 4, 3, [37]),
  (36, .iconst 1, 1, []),
  (37, .istore 6, 2, []),
  (39, .iload 6, 2, []),
  (41, .iconst 2, 1, []),
  (42, .if_icmp .ne 6, 3, [48]),
  (45, .iinc 4 1, 3, []),
  (48, .aload_n 0, 1, []),
  (49, .iload 5, 2, []),
  (51, .iconst 2, 1, []),
  (52, .iload 6, 2, []),
  (54, .ifCond .ne 7, 3, [61]),
  (57, .iconst 0, 1, []),
  (58, .goto 17, 3, [75]),
  (61, .aload_n 0, 1, []),
  (62, .iload 5, 2, []),
  (64, .iconst 2, 1, []),
  (65, .invokevirtual 44, 3, [0, 61, 3, 0, 0, 0, 0, 615, 608, 22, 111, 609]),
  (68, .iconst 1, 1, []),
  (69, .iadd, 1, []),
  (70, .bipush 99, 2, []),
  (72, .invokestatic 82, 3, [11, 718, 309, 114, 310]),
  (75, .invokevirtual 30, 3, [0, 44, 4, 0, 0, 0, 0, 499, 501, 19, 111, 502]),
  (78, .iinc 5 1, 3, []),
  (81, .goto (-75), 3, [6]),
  (84, .iload 4, 2, []),
  (86, .ireturn, 1, [0])]
def mr64 (S : Nat → mv_Sp) (P : mv_Post) : mv_Kt := mv_R mv_DF mk64 S (0, 0) P
theorem e64_0 : mr64 S P 0 L st sh M c s = (mr64 S P 1 L (.int (nI 0) :: st) sh M c s) := propext (mv_R_iff (i := .iconst 0) (len := 1) (ax := []) (by decide +kernel))
theorem e64_1 {x : Int32} : mr64 S P 1 L (.int x :: st) sh M c s = (q_hs L 4 ∧ mr64 S P 3 (L.set 4 (some (.int x))) st sh M c s) := (propext (mv_R_iff (i := .istore 4) (len := 2) (ax := []) (by decide +kernel))).trans (q_st_eq (K := fun L => mr64 S P 3 L st sh M c s))
theorem e64_3 : mr64 S P 3 L st sh M c s = (mr64 S P 4 L (.int (nI 0) :: st) sh M c s) := propext (mv_R_iff (i := .iconst 0) (len := 1) (ax := []) (by decide +kernel))
theorem e64_4 {x : Int32} : mr64 S P 4 L (.int x :: st) sh M c s = (q_hs L 5 ∧ mr64 S P 6 (L.set 5 (some (.int x))) st sh M c s) := (propext (mv_R_iff (i := .istore 5) (len := 2) (ax := []) (by decide +kernel))).trans (q_st_eq (K := fun L => mr64 S P 6 L st sh M c s))
theorem e64_6 : mr64 S P 6 L st sh M c s = (q_isI (q_gv L 5) ∧ mr64 S P 8 L (q_gv L 5 :: st) sh M c s) := (propext (mv_R_iff (i := .iload 5) (len := 2) (ax := []) (by decide +kernel))).trans (q_ldI_eq (K := fun st => mr64 S P 8 L st sh M c s))
theorem e64_8 : mr64 S P 8 L st sh M c s = (q_isA (q_gv L 1) ∧ mr64 S P 9 L (q_gv L 1 :: st) sh M c s) := (propext (mv_R_iff (i := .aload_n 1) (len := 1) (ax := []) (by decide +kernel))).trans (q_ldA_eq (K := fun st => mr64 S P 9 L st sh M c s))
theorem e64_9 {a : Nat} : mr64 S P 9 L (.ref a :: st) sh M c s = (mv_kgf sh M a 1 0 (mr64 S P) 12 L st c s) := propext (mv_R_iff (i := .getfield 72) (len := 3) (ax := [170, 1, 1, 0]) (by decide +kernel))
theorem e64_12 {y : Int32} {x : Int32} : mr64 S P 12 L (.int y :: .int x :: st) sh M c s = (if y ≤ x then mr64 S P 84 L st sh M c s else mr64 S P 15 L st sh M c s) := (propext (mv_R_iff (i := .if_icmp .ge 72) (len := 3) (ax := [84]) (by decide +kernel))).trans (q_br)
theorem e64_15 : mr64 S P 15 L st sh M c s = (q_isA (q_gv L 1) ∧ mr64 S P 16 L (q_gv L 1 :: st) sh M c s) := (propext (mv_R_iff (i := .aload_n 1) (len := 1) (ax := []) (by decide +kernel))).trans (q_ldA_eq (K := fun st => mr64 S P 16 L st sh M c s))
theorem e64_16 : mr64 S P 16 L st sh M c s = (q_isI (q_gv L 2) ∧ mr64 S P 17 L (q_gv L 2 :: st) sh M c s) := (propext (mv_R_iff (i := .iload_n 2) (len := 1) (ax := []) (by decide +kernel))).trans (q_ldI_eq (K := fun st => mr64 S P 17 L st sh M c s))
theorem e64_17 : mr64 S P 17 L st sh M c s = (q_isI (q_gv L 5) ∧ mr64 S P 19 L (q_gv L 5 :: st) sh M c s) := (propext (mv_R_iff (i := .iload 5) (len := 2) (ax := []) (by decide +kernel))).trans (q_ldI_eq (K := fun st => mr64 S P 19 L st sh M c s))
theorem e64_19 {v3 : Value} {v2 : Value} {v1 : Value} : mr64 S P 19 L (v3 :: v2 :: v1 :: st) sh M c s = (mv_ss st ≤ 8 ∧ c ≤ 0 ∧ s ≤ 0 ∧ mv_isO sh (some v1) 1 ∧ mv_kal S 58 [v1, v2, v3] sh M (mr64 S P) 22 L st c s) := (propext (mv_R_iff (i := .invokevirtual 75) (len := 3) (ax := [1, 58, 3, 1, 0, 0, 697, 699, 36, 109, 700]) (by decide +kernel))).trans (q_call1)
theorem e64_22 {x : Int32} : mr64 S P 22 L (.int x :: st) sh M c s = (if x = nI 0 then mr64 S P 36 L st sh M c s else mr64 S P 25 L st sh M c s) := (propext (mv_R_iff (i := .ifCond .eq 14) (len := 3) (ax := [36]) (by decide +kernel))).trans (q_br)
theorem e64_25 : mr64 S P 25 L st sh M c s = (q_isA (q_gv L 0) ∧ mr64 S P 26 L (q_gv L 0 :: st) sh M c s) := (propext (mv_R_iff (i := .aload_n 0) (len := 1) (ax := []) (by decide +kernel))).trans (q_ldA_eq (K := fun st => mr64 S P 26 L st sh M c s))
theorem e64_26 : mr64 S P 26 L st sh M c s = (q_isA (q_gv L 1) ∧ mr64 S P 27 L (q_gv L 1 :: st) sh M c s) := (propext (mv_R_iff (i := .aload_n 1) (len := 1) (ax := []) (by decide +kernel))).trans (q_ldA_eq (K := fun st => mr64 S P 27 L st sh M c s))
theorem e64_27 : mr64 S P 27 L st sh M c s = (q_isI (q_gv L 5) ∧ mr64 S P 29 L (q_gv L 5 :: st) sh M c s) := (propext (mv_R_iff (i := .iload 5) (len := 2) (ax := []) (by decide +kernel))).trans (q_ldI_eq (K := fun st => mr64 S P 29 L st sh M c s))
theorem e64_29 : mr64 S P 29 L st sh M c s = (q_isI (q_gv L 3) ∧ mr64 S P 30 L (q_gv L 3 :: st) sh M c s) := (propext (mv_R_iff (i := .iload_n 3) (len := 1) (ax := []) (by decide +kernel))).trans (q_ldI_eq (K := fun st => mr64 S P 30 L st sh M c s))
theorem e64_30 {v4 : Value} {v3 : Value} {v2 : Value} {v1 : Value} : mr64 S P 30 L (v4 :: v3 :: v2 :: v1 :: st) sh M c s = (mv_ss st ≤ 8 ∧ c ≤ 0 ∧ s ≤ 0 ∧ mv_isO sh (some v1) 0 ∧ mv_kal S 63 [v1, v2, v3, v4] sh M (mr64 S P) 33 L st c s) := (propext (mv_R_iff (i := .invokevirtual 79) (len := 3) (ax := [0, 63, 4, 0, 0, 0, 0, 702, 704, 37, 111, 705]) (by decide +kernel))).trans (q_call0)
theorem e64_33 : mr64 S P 33 L st sh M c s = (mr64 S P 37 L st sh M c s) := propext (mv_R_iff (i := .goto 4) (len := 3) (ax := [37]) (by decide +kernel))
theorem e64_36 : mr64 S P 36 L st sh M c s = (mr64 S P 37 L (.int (nI 1) :: st) sh M c s) := propext (mv_R_iff (i := .iconst 1) (len := 1) (ax := []) (by decide +kernel))
theorem e64_37 {x : Int32} : mr64 S P 37 L (.int x :: st) sh M c s = (q_hs L 6 ∧ mr64 S P 39 (L.set 6 (some (.int x))) st sh M c s) := (propext (mv_R_iff (i := .istore 6) (len := 2) (ax := []) (by decide +kernel))).trans (q_st_eq (K := fun L => mr64 S P 39 L st sh M c s))
theorem e64_39 : mr64 S P 39 L st sh M c s = (q_isI (q_gv L 6) ∧ mr64 S P 41 L (q_gv L 6 :: st) sh M c s) := (propext (mv_R_iff (i := .iload 6) (len := 2) (ax := []) (by decide +kernel))).trans (q_ldI_eq (K := fun st => mr64 S P 41 L st sh M c s))
theorem e64_41 : mr64 S P 41 L st sh M c s = (mr64 S P 42 L (.int (nI 2) :: st) sh M c s) := propext (mv_R_iff (i := .iconst 2) (len := 1) (ax := []) (by decide +kernel))
theorem e64_42 {y : Int32} {x : Int32} : mr64 S P 42 L (.int y :: .int x :: st) sh M c s = (if x = y then mr64 S P 45 L st sh M c s else mr64 S P 48 L st sh M c s) := (propext (mv_R_iff (i := .if_icmp .ne 6) (len := 3) (ax := [48]) (by decide +kernel))).trans (q_br')
theorem e64_45 : mr64 S P 45 L st sh M c s = ((q_isI (q_gv L 4) ∧ q_hs L 4) ∧ mr64 S P 48 (L.set 4 (some (q_inc (q_gv L 4) (nI 1)))) st sh M c s) := (propext (mv_R_iff (i := .iinc 4 1) (len := 3) (ax := []) (by decide +kernel))).trans (q_inc_eq (K := fun L => mr64 S P 48 L st sh M c s))
theorem e64_48 : mr64 S P 48 L st sh M c s = (q_isA (q_gv L 0) ∧ mr64 S P 49 L (q_gv L 0 :: st) sh M c s) := (propext (mv_R_iff (i := .aload_n 0) (len := 1) (ax := []) (by decide +kernel))).trans (q_ldA_eq (K := fun st => mr64 S P 49 L st sh M c s))
theorem e64_49 : mr64 S P 49 L st sh M c s = (q_isI (q_gv L 5) ∧ mr64 S P 51 L (q_gv L 5 :: st) sh M c s) := (propext (mv_R_iff (i := .iload 5) (len := 2) (ax := []) (by decide +kernel))).trans (q_ldI_eq (K := fun st => mr64 S P 51 L st sh M c s))
theorem e64_51 : mr64 S P 51 L st sh M c s = (mr64 S P 52 L (.int (nI 2) :: st) sh M c s) := propext (mv_R_iff (i := .iconst 2) (len := 1) (ax := []) (by decide +kernel))
theorem e64_52 : mr64 S P 52 L st sh M c s = (q_isI (q_gv L 6) ∧ mr64 S P 54 L (q_gv L 6 :: st) sh M c s) := (propext (mv_R_iff (i := .iload 6) (len := 2) (ax := []) (by decide +kernel))).trans (q_ldI_eq (K := fun st => mr64 S P 54 L st sh M c s))
theorem e64_54 {x : Int32} : mr64 S P 54 L (.int x :: st) sh M c s = (if x = nI 0 then mr64 S P 57 L st sh M c s else mr64 S P 61 L st sh M c s) := (propext (mv_R_iff (i := .ifCond .ne 7) (len := 3) (ax := [61]) (by decide +kernel))).trans (q_br')
theorem e64_57 : mr64 S P 57 L st sh M c s = (mr64 S P 58 L (.int (nI 0) :: st) sh M c s) := propext (mv_R_iff (i := .iconst 0) (len := 1) (ax := []) (by decide +kernel))
theorem e64_58 : mr64 S P 58 L st sh M c s = (mr64 S P 75 L st sh M c s) := propext (mv_R_iff (i := .goto 17) (len := 3) (ax := [75]) (by decide +kernel))
theorem e64_61 : mr64 S P 61 L st sh M c s = (q_isA (q_gv L 0) ∧ mr64 S P 62 L (q_gv L 0 :: st) sh M c s) := (propext (mv_R_iff (i := .aload_n 0) (len := 1) (ax := []) (by decide +kernel))).trans (q_ldA_eq (K := fun st => mr64 S P 62 L st sh M c s))
theorem e64_62 : mr64 S P 62 L st sh M c s = (q_isI (q_gv L 5) ∧ mr64 S P 64 L (q_gv L 5 :: st) sh M c s) := (propext (mv_R_iff (i := .iload 5) (len := 2) (ax := []) (by decide +kernel))).trans (q_ldI_eq (K := fun st => mr64 S P 64 L st sh M c s))
theorem e64_64 : mr64 S P 64 L st sh M c s = (mr64 S P 65 L (.int (nI 2) :: st) sh M c s) := propext (mv_R_iff (i := .iconst 2) (len := 1) (ax := []) (by decide +kernel))
theorem e64_65 {v3 : Value} {v2 : Value} {v1 : Value} : mr64 S P 65 L (v3 :: v2 :: v1 :: st) sh M c s = (mv_ss st ≤ 8 ∧ c ≤ 0 ∧ s ≤ 0 ∧ mv_isO sh (some v1) 0 ∧ mv_kal S 61 [v1, v2, v3] sh M (mr64 S P) 68 L st c s) := (propext (mv_R_iff (i := .invokevirtual 44) (len := 3) (ax := [0, 61, 3, 0, 0, 0, 0, 615, 608, 22, 111, 609]) (by decide +kernel))).trans (q_call0)
theorem e64_68 : mr64 S P 68 L st sh M c s = (mr64 S P 69 L (.int (nI 1) :: st) sh M c s) := propext (mv_R_iff (i := .iconst 1) (len := 1) (ax := []) (by decide +kernel))
theorem e64_69 {y : Int32} {x : Int32} : mr64 S P 69 L (.int y :: .int x :: st) sh M c s = (mr64 S P 70 L (.int (x + y) :: st) sh M c s) := propext (mv_R_iff (i := .iadd) (len := 1) (ax := []) (by decide +kernel))
theorem e64_70 : mr64 S P 70 L st sh M c s = (mr64 S P 72 L (.int (nI 99) :: st) sh M c s) := propext (mv_R_iff (i := .bipush 99) (len := 2) (ax := []) (by decide +kernel))
theorem e64_72 {y : Int32} {x : Int32} : mr64 S P 72 L (.int y :: .int x :: st) sh M c s = (mv_ss st + 1 + 1 ≤ 8 ∧ mr64 S P 75 L (.int (if y < x then y else x) :: st) sh M c s) := propext (mv_R_iff (i := .invokestatic 82) (len := 3) (ax := [11, 718, 309, 114, 310]) (by decide +kernel))
theorem e64_75 {v4 : Value} {v3 : Value} {v2 : Value} {v1 : Value} : mr64 S P 75 L (v4 :: v3 :: v2 :: v1 :: st) sh M c s = (mv_ss st ≤ 8 ∧ c ≤ 0 ∧ s ≤ 0 ∧ mv_isO sh (some v1) 0 ∧ mv_kal S 44 [v1, v2, v3, v4] sh M (mr64 S P) 78 L st c s) := (propext (mv_R_iff (i := .invokevirtual 30) (len := 3) (ax := [0, 44, 4, 0, 0, 0, 0, 499, 501, 19, 111, 502]) (by decide +kernel))).trans (q_call0)
theorem e64_78 : mr64 S P 78 L st sh M c s = ((q_isI (q_gv L 5) ∧ q_hs L 5) ∧ mr64 S P 81 (L.set 5 (some (q_inc (q_gv L 5) (nI 1)))) st sh M c s) := (propext (mv_R_iff (i := .iinc 5 1) (len := 3) (ax := []) (by decide +kernel))).trans (q_inc_eq (K := fun L => mr64 S P 81 L st sh M c s))
theorem e64_81 : mr64 S P 81 L st sh M c s = (mr64 S P 6 L st sh M c s) := propext (mv_R_iff (i := .goto (-75)) (len := 3) (ax := [6]) (by decide +kernel))
theorem e64_84 : mr64 S P 84 L st sh M c s = (q_isI (q_gv L 4) ∧ mr64 S P 86 L (q_gv L 4 :: st) sh M c s) := (propext (mv_R_iff (i := .iload 4) (len := 2) (ax := []) (by decide +kernel))).trans (q_ldI_eq (K := fun st => mr64 S P 86 L st sh M c s))
theorem e64_86 {x : Int32} : mr64 S P 86 L [.int x] sh M c s = (mv_nr 0 x ∧ P (some (.int x)) sh M) := propext (mv_R_iff (i := .ireturn) (len := 1) (ax := [0]) (by decide +kernel))
-- 70: Cloth.weavePick(LTurnedTablets$Loom;II)I
def mk70 : mv_Cd := [
  (0, .aload_n 0, 1, []),
  (1, .getfield 34, 3, [238, 0, 0, 2]),
  (4, .ifCond .lt 12, 3, [16]),
  (7, .aload_n 0, 1, []),
  (8, .getfield 34, 3, [238, 0, 0, 2]),
  (11, .bipush 24, 2, []),
  (13, .if_icmp .lt 5, 3, [18]),
  (16, .iconst 0, 1, []),
  (17, .ireturn, 1, [0]),
  (18, .aload_n 0, 1, []),
  (19, .getfield 34, 3, [238, 0, 0, 2]),
  (22, .bipush 32, 2, []),
  (24, .imul, 1, []),
  (25, .istore 4, 2, []),
  (27, .aload_n 0, 1, []),
  (28, .getfield 11, 3, [236, 0, 0, 0]),
  (31, .iconst 0, 1, []),
  (32, .aload_n 0, 1, []),
  (33, .getfield 15, 3, [237, 0, 0, 1]),
  (36, .iload 4, 2, []),
  (38, .iconst 2, 1, []),
  (39, .iadd, 1, []),
  (40, .bipush 30, 2, []),
  (42, .invokestatic 38, 3, [10, 687, 313, 312, 116]),
  (45, .aload_n 0, 1, []),
  (46, .aload_n 1, 1, []),
  (47, .iload_n 2, 1, []),
  (48, .iload_n 3, 1, []),
  (49, .invokevirtual 85, 3, [0, 64, 4, 0, 0, 0, 0, 693, 695, 35, 111, 696]),
  (52, .istore 5, 2, []),
  (54, .aload_n 0, 1, []),
  (55, .getfield 15, 3, [237, 0, 0, 1]),
  (58, .iload 4, 2, []),
  (60, .iconst 0, 1, []),
  (61, .iadd, 1, []),
  (62, .aload_n 1, 1, []),
  (63, .aload_n 0, 1, []),
  (64, .invokevirtual 88, 3, [0, 66, 1, 0, 0, 0, 0, 719, 646, 27, 111, 647]),
  (67, .invokevirtual 92, 3, [1, 67, 2, 1, 0, 0, 720, 653, 28, 109, 654]),
  (70, .iastore, 1, []),
  (71, .aload_n 0, 1, []),
  (72, .getfield 15, 3, [237, 0, 0, 1]),
  (75, .iload 4, 2, []),
  (77, .iconst 1, 1, []),
  (78, .iadd, 1, []),
  (79, .aload_n 0, 1, []),
  (80, .aload_n 1, 1, []),
  (81, .getfield 72, 3, [170, 1, 1, 0]),
  (84, .invokevirtual 95, 3, [0, 69, 2, 0, 0, 0, 0, 721, 657, 29, 111, 658]),
  (87, .iastore, 1, []),
  (88, .aload_n 0, 1, []),
  (89, .dup, 1, []),
  (90, .getfield 34, 3, [238, 0, 0, 2]),
  (93, .iconst 1, 1, []),
  (94, .iadd, 1, []),
  (95, .putfield 34, 3, [238, 0, 0, 2, 0]),
  (98, .iload 5, 2, []),
  (100, .ireturn, 1, [0])]
def mr70 (S : Nat → mv_Sp) (P : mv_Post) : mv_Kt := mv_R mv_DF mk70 S (0, 0) P
theorem e70_0 : mr70 S P 0 L st sh M c s = (q_isA (q_gv L 0) ∧ mr70 S P 1 L (q_gv L 0 :: st) sh M c s) := (propext (mv_R_iff (i := .aload_n 0) (len := 1) (ax := []) (by decide +kernel))).trans (q_ldA_eq (K := fun st => mr70 S P 1 L st sh M c s))
theorem e70_1 {a : Nat} : mr70 S P 1 L (.ref a :: st) sh M c s = (mv_kgf sh M a 0 2 (mr70 S P) 4 L st c s) := propext (mv_R_iff (i := .getfield 34) (len := 3) (ax := [238, 0, 0, 2]) (by decide +kernel))
theorem e70_4 {x : Int32} : mr70 S P 4 L (.int x :: st) sh M c s = (if x < nI 0 then mr70 S P 16 L st sh M c s else mr70 S P 7 L st sh M c s) := (propext (mv_R_iff (i := .ifCond .lt 12) (len := 3) (ax := [16]) (by decide +kernel))).trans (q_br)
theorem e70_7 : mr70 S P 7 L st sh M c s = (q_isA (q_gv L 0) ∧ mr70 S P 8 L (q_gv L 0 :: st) sh M c s) := (propext (mv_R_iff (i := .aload_n 0) (len := 1) (ax := []) (by decide +kernel))).trans (q_ldA_eq (K := fun st => mr70 S P 8 L st sh M c s))
theorem e70_8 {a : Nat} : mr70 S P 8 L (.ref a :: st) sh M c s = (mv_kgf sh M a 0 2 (mr70 S P) 11 L st c s) := propext (mv_R_iff (i := .getfield 34) (len := 3) (ax := [238, 0, 0, 2]) (by decide +kernel))
theorem e70_11 : mr70 S P 11 L st sh M c s = (mr70 S P 13 L (.int (nI 24) :: st) sh M c s) := propext (mv_R_iff (i := .bipush 24) (len := 2) (ax := []) (by decide +kernel))
theorem e70_13 {y : Int32} {x : Int32} : mr70 S P 13 L (.int y :: .int x :: st) sh M c s = (if x < y then mr70 S P 18 L st sh M c s else mr70 S P 16 L st sh M c s) := (propext (mv_R_iff (i := .if_icmp .lt 5) (len := 3) (ax := [18]) (by decide +kernel))).trans (q_br)
theorem e70_16 : mr70 S P 16 L st sh M c s = (mr70 S P 17 L (.int (nI 0) :: st) sh M c s) := propext (mv_R_iff (i := .iconst 0) (len := 1) (ax := []) (by decide +kernel))
theorem e70_17 {x : Int32} : mr70 S P 17 L [.int x] sh M c s = (mv_nr 0 x ∧ P (some (.int x)) sh M) := propext (mv_R_iff (i := .ireturn) (len := 1) (ax := [0]) (by decide +kernel))
theorem e70_18 : mr70 S P 18 L st sh M c s = (q_isA (q_gv L 0) ∧ mr70 S P 19 L (q_gv L 0 :: st) sh M c s) := (propext (mv_R_iff (i := .aload_n 0) (len := 1) (ax := []) (by decide +kernel))).trans (q_ldA_eq (K := fun st => mr70 S P 19 L st sh M c s))
theorem e70_19 {a : Nat} : mr70 S P 19 L (.ref a :: st) sh M c s = (mv_kgf sh M a 0 2 (mr70 S P) 22 L st c s) := propext (mv_R_iff (i := .getfield 34) (len := 3) (ax := [238, 0, 0, 2]) (by decide +kernel))
theorem e70_22 : mr70 S P 22 L st sh M c s = (mr70 S P 24 L (.int (nI 32) :: st) sh M c s) := propext (mv_R_iff (i := .bipush 32) (len := 2) (ax := []) (by decide +kernel))
theorem e70_24 {y : Int32} {x : Int32} : mr70 S P 24 L (.int y :: .int x :: st) sh M c s = (mr70 S P 25 L (.int (x * y) :: st) sh M c s) := propext (mv_R_iff (i := .imul) (len := 1) (ax := []) (by decide +kernel))
theorem e70_25 {x : Int32} : mr70 S P 25 L (.int x :: st) sh M c s = (q_hs L 4 ∧ mr70 S P 27 (L.set 4 (some (.int x))) st sh M c s) := (propext (mv_R_iff (i := .istore 4) (len := 2) (ax := []) (by decide +kernel))).trans (q_st_eq (K := fun L => mr70 S P 27 L st sh M c s))
theorem e70_27 : mr70 S P 27 L st sh M c s = (q_isA (q_gv L 0) ∧ mr70 S P 28 L (q_gv L 0 :: st) sh M c s) := (propext (mv_R_iff (i := .aload_n 0) (len := 1) (ax := []) (by decide +kernel))).trans (q_ldA_eq (K := fun st => mr70 S P 28 L st sh M c s))
theorem e70_28 {a : Nat} : mr70 S P 28 L (.ref a :: st) sh M c s = (mv_kgf sh M a 0 0 (mr70 S P) 31 L st c s) := propext (mv_R_iff (i := .getfield 11) (len := 3) (ax := [236, 0, 0, 0]) (by decide +kernel))
theorem e70_31 : mr70 S P 31 L st sh M c s = (mr70 S P 32 L (.int (nI 0) :: st) sh M c s) := propext (mv_R_iff (i := .iconst 0) (len := 1) (ax := []) (by decide +kernel))
theorem e70_32 : mr70 S P 32 L st sh M c s = (q_isA (q_gv L 0) ∧ mr70 S P 33 L (q_gv L 0 :: st) sh M c s) := (propext (mv_R_iff (i := .aload_n 0) (len := 1) (ax := []) (by decide +kernel))).trans (q_ldA_eq (K := fun st => mr70 S P 33 L st sh M c s))
theorem e70_33 {a : Nat} : mr70 S P 33 L (.ref a :: st) sh M c s = (mv_kgf sh M a 0 1 (mr70 S P) 36 L st c s) := propext (mv_R_iff (i := .getfield 15) (len := 3) (ax := [237, 0, 0, 1]) (by decide +kernel))
theorem e70_36 : mr70 S P 36 L st sh M c s = (q_isI (q_gv L 4) ∧ mr70 S P 38 L (q_gv L 4 :: st) sh M c s) := (propext (mv_R_iff (i := .iload 4) (len := 2) (ax := []) (by decide +kernel))).trans (q_ldI_eq (K := fun st => mr70 S P 38 L st sh M c s))
theorem e70_38 : mr70 S P 38 L st sh M c s = (mr70 S P 39 L (.int (nI 2) :: st) sh M c s) := propext (mv_R_iff (i := .iconst 2) (len := 1) (ax := []) (by decide +kernel))
theorem e70_39 {y : Int32} {x : Int32} : mr70 S P 39 L (.int y :: .int x :: st) sh M c s = (mr70 S P 40 L (.int (x + y) :: st) sh M c s) := propext (mv_R_iff (i := .iadd) (len := 1) (ax := []) (by decide +kernel))
theorem e70_40 : mr70 S P 40 L st sh M c s = (mr70 S P 42 L (.int (nI 30) :: st) sh M c s) := propext (mv_R_iff (i := .bipush 30) (len := 2) (ax := []) (by decide +kernel))
theorem e70_42 {n : Int32} {dp : Int32} {d : Nat} {sp : Int32} {a : Nat} : mr70 S P 42 L (.int n :: .int dp :: .ref d :: .int sp :: .ref a :: st) sh M c s = (mv_kcp sh M a sp d dp n (mr70 S P) 45 L st c s) := propext (mv_R_iff (i := .invokestatic 38) (len := 3) (ax := [10, 687, 313, 312, 116]) (by decide +kernel))
theorem e70_45 : mr70 S P 45 L st sh M c s = (q_isA (q_gv L 0) ∧ mr70 S P 46 L (q_gv L 0 :: st) sh M c s) := (propext (mv_R_iff (i := .aload_n 0) (len := 1) (ax := []) (by decide +kernel))).trans (q_ldA_eq (K := fun st => mr70 S P 46 L st sh M c s))
theorem e70_46 : mr70 S P 46 L st sh M c s = (q_isA (q_gv L 1) ∧ mr70 S P 47 L (q_gv L 1 :: st) sh M c s) := (propext (mv_R_iff (i := .aload_n 1) (len := 1) (ax := []) (by decide +kernel))).trans (q_ldA_eq (K := fun st => mr70 S P 47 L st sh M c s))
theorem e70_47 : mr70 S P 47 L st sh M c s = (q_isI (q_gv L 2) ∧ mr70 S P 48 L (q_gv L 2 :: st) sh M c s) := (propext (mv_R_iff (i := .iload_n 2) (len := 1) (ax := []) (by decide +kernel))).trans (q_ldI_eq (K := fun st => mr70 S P 48 L st sh M c s))
theorem e70_48 : mr70 S P 48 L st sh M c s = (q_isI (q_gv L 3) ∧ mr70 S P 49 L (q_gv L 3 :: st) sh M c s) := (propext (mv_R_iff (i := .iload_n 3) (len := 1) (ax := []) (by decide +kernel))).trans (q_ldI_eq (K := fun st => mr70 S P 49 L st sh M c s))
theorem e70_49 {v4 : Value} {v3 : Value} {v2 : Value} {v1 : Value} : mr70 S P 49 L (v4 :: v3 :: v2 :: v1 :: st) sh M c s = (mv_ss st ≤ 8 ∧ c ≤ 0 ∧ s ≤ 0 ∧ mv_isO sh (some v1) 0 ∧ mv_kal S 64 [v1, v2, v3, v4] sh M (mr70 S P) 52 L st c s) := (propext (mv_R_iff (i := .invokevirtual 85) (len := 3) (ax := [0, 64, 4, 0, 0, 0, 0, 693, 695, 35, 111, 696]) (by decide +kernel))).trans (q_call0)
theorem e70_52 {x : Int32} : mr70 S P 52 L (.int x :: st) sh M c s = (q_hs L 5 ∧ mr70 S P 54 (L.set 5 (some (.int x))) st sh M c s) := (propext (mv_R_iff (i := .istore 5) (len := 2) (ax := []) (by decide +kernel))).trans (q_st_eq (K := fun L => mr70 S P 54 L st sh M c s))
theorem e70_54 : mr70 S P 54 L st sh M c s = (q_isA (q_gv L 0) ∧ mr70 S P 55 L (q_gv L 0 :: st) sh M c s) := (propext (mv_R_iff (i := .aload_n 0) (len := 1) (ax := []) (by decide +kernel))).trans (q_ldA_eq (K := fun st => mr70 S P 55 L st sh M c s))
theorem e70_55 {a : Nat} : mr70 S P 55 L (.ref a :: st) sh M c s = (mv_kgf sh M a 0 1 (mr70 S P) 58 L st c s) := propext (mv_R_iff (i := .getfield 15) (len := 3) (ax := [237, 0, 0, 1]) (by decide +kernel))
theorem e70_58 : mr70 S P 58 L st sh M c s = (q_isI (q_gv L 4) ∧ mr70 S P 60 L (q_gv L 4 :: st) sh M c s) := (propext (mv_R_iff (i := .iload 4) (len := 2) (ax := []) (by decide +kernel))).trans (q_ldI_eq (K := fun st => mr70 S P 60 L st sh M c s))
theorem e70_60 : mr70 S P 60 L st sh M c s = (mr70 S P 61 L (.int (nI 0) :: st) sh M c s) := propext (mv_R_iff (i := .iconst 0) (len := 1) (ax := []) (by decide +kernel))
theorem e70_61 {y : Int32} {x : Int32} : mr70 S P 61 L (.int y :: .int x :: st) sh M c s = (mr70 S P 62 L (.int (x + y) :: st) sh M c s) := propext (mv_R_iff (i := .iadd) (len := 1) (ax := []) (by decide +kernel))
theorem e70_62 : mr70 S P 62 L st sh M c s = (q_isA (q_gv L 1) ∧ mr70 S P 63 L (q_gv L 1 :: st) sh M c s) := (propext (mv_R_iff (i := .aload_n 1) (len := 1) (ax := []) (by decide +kernel))).trans (q_ldA_eq (K := fun st => mr70 S P 63 L st sh M c s))
theorem e70_63 : mr70 S P 63 L st sh M c s = (q_isA (q_gv L 0) ∧ mr70 S P 64 L (q_gv L 0 :: st) sh M c s) := (propext (mv_R_iff (i := .aload_n 0) (len := 1) (ax := []) (by decide +kernel))).trans (q_ldA_eq (K := fun st => mr70 S P 64 L st sh M c s))
theorem e70_64 {v1 : Value} : mr70 S P 64 L (v1 :: st) sh M c s = (mv_ss st ≤ 8 ∧ c ≤ 0 ∧ s ≤ 0 ∧ mv_isO sh (some v1) 0 ∧ mv_kal S 66 [v1] sh M (mr70 S P) 67 L st c s) := (propext (mv_R_iff (i := .invokevirtual 88) (len := 3) (ax := [0, 66, 1, 0, 0, 0, 0, 719, 646, 27, 111, 647]) (by decide +kernel))).trans (q_call0)
theorem e70_67 {v2 : Value} {v1 : Value} : mr70 S P 67 L (v2 :: v1 :: st) sh M c s = (mv_ss st ≤ 8 ∧ c ≤ 0 ∧ s ≤ 0 ∧ mv_isO sh (some v1) 1 ∧ mv_kal S 67 [v1, v2] sh M (mr70 S P) 70 L st c s) := (propext (mv_R_iff (i := .invokevirtual 92) (len := 3) (ax := [1, 67, 2, 1, 0, 0, 720, 653, 28, 109, 654]) (by decide +kernel))).trans (q_call1)
theorem e70_70 {x : Int32} {i : Int32} {a : Nat} : mr70 S P 70 L (.int x :: .int i :: .ref a :: st) sh M c s = (mv_kst sh M a i x (mr70 S P) 71 L st c s) := propext (mv_R_iff (i := .iastore) (len := 1) (ax := []) (by decide +kernel))
theorem e70_71 : mr70 S P 71 L st sh M c s = (q_isA (q_gv L 0) ∧ mr70 S P 72 L (q_gv L 0 :: st) sh M c s) := (propext (mv_R_iff (i := .aload_n 0) (len := 1) (ax := []) (by decide +kernel))).trans (q_ldA_eq (K := fun st => mr70 S P 72 L st sh M c s))
theorem e70_72 {a : Nat} : mr70 S P 72 L (.ref a :: st) sh M c s = (mv_kgf sh M a 0 1 (mr70 S P) 75 L st c s) := propext (mv_R_iff (i := .getfield 15) (len := 3) (ax := [237, 0, 0, 1]) (by decide +kernel))
theorem e70_75 : mr70 S P 75 L st sh M c s = (q_isI (q_gv L 4) ∧ mr70 S P 77 L (q_gv L 4 :: st) sh M c s) := (propext (mv_R_iff (i := .iload 4) (len := 2) (ax := []) (by decide +kernel))).trans (q_ldI_eq (K := fun st => mr70 S P 77 L st sh M c s))
theorem e70_77 : mr70 S P 77 L st sh M c s = (mr70 S P 78 L (.int (nI 1) :: st) sh M c s) := propext (mv_R_iff (i := .iconst 1) (len := 1) (ax := []) (by decide +kernel))
theorem e70_78 {y : Int32} {x : Int32} : mr70 S P 78 L (.int y :: .int x :: st) sh M c s = (mr70 S P 79 L (.int (x + y) :: st) sh M c s) := propext (mv_R_iff (i := .iadd) (len := 1) (ax := []) (by decide +kernel))
theorem e70_79 : mr70 S P 79 L st sh M c s = (q_isA (q_gv L 0) ∧ mr70 S P 80 L (q_gv L 0 :: st) sh M c s) := (propext (mv_R_iff (i := .aload_n 0) (len := 1) (ax := []) (by decide +kernel))).trans (q_ldA_eq (K := fun st => mr70 S P 80 L st sh M c s))
theorem e70_80 : mr70 S P 80 L st sh M c s = (q_isA (q_gv L 1) ∧ mr70 S P 81 L (q_gv L 1 :: st) sh M c s) := (propext (mv_R_iff (i := .aload_n 1) (len := 1) (ax := []) (by decide +kernel))).trans (q_ldA_eq (K := fun st => mr70 S P 81 L st sh M c s))
theorem e70_81 {a : Nat} : mr70 S P 81 L (.ref a :: st) sh M c s = (mv_kgf sh M a 1 0 (mr70 S P) 84 L st c s) := propext (mv_R_iff (i := .getfield 72) (len := 3) (ax := [170, 1, 1, 0]) (by decide +kernel))
theorem e70_84 {v2 : Value} {v1 : Value} : mr70 S P 84 L (v2 :: v1 :: st) sh M c s = (mv_ss st ≤ 8 ∧ c ≤ 0 ∧ s ≤ 0 ∧ mv_isO sh (some v1) 0 ∧ mv_kal S 69 [v1, v2] sh M (mr70 S P) 87 L st c s) := (propext (mv_R_iff (i := .invokevirtual 95) (len := 3) (ax := [0, 69, 2, 0, 0, 0, 0, 721, 657, 29, 111, 658]) (by decide +kernel))).trans (q_call0)
theorem e70_87 {x : Int32} {i : Int32} {a : Nat} : mr70 S P 87 L (.int x :: .int i :: .ref a :: st) sh M c s = (mv_kst sh M a i x (mr70 S P) 88 L st c s) := propext (mv_R_iff (i := .iastore) (len := 1) (ax := []) (by decide +kernel))
theorem e70_88 : mr70 S P 88 L st sh M c s = (q_isA (q_gv L 0) ∧ mr70 S P 89 L (q_gv L 0 :: st) sh M c s) := (propext (mv_R_iff (i := .aload_n 0) (len := 1) (ax := []) (by decide +kernel))).trans (q_ldA_eq (K := fun st => mr70 S P 89 L st sh M c s))
theorem e70_89 {x : Int32} : mr70 S P 89 L (.int x :: st) sh M c s = (mr70 S P 90 L (.int x :: .int x :: st) sh M c s) := propext (mv_R_iff (i := .dup) (len := 1) (ax := []) (by decide +kernel))
theorem e70_89r {x : Nat} : mr70 S P 89 L (.ref x :: st) sh M c s = (mr70 S P 90 L (.ref x :: .ref x :: st) sh M c s) := propext (mv_R_iff (i := .dup) (len := 1) (ax := []) (by decide +kernel))
theorem e70_90 {a : Nat} : mr70 S P 90 L (.ref a :: st) sh M c s = (mv_kgf sh M a 0 2 (mr70 S P) 93 L st c s) := propext (mv_R_iff (i := .getfield 34) (len := 3) (ax := [238, 0, 0, 2]) (by decide +kernel))
theorem e70_93 : mr70 S P 93 L st sh M c s = (mr70 S P 94 L (.int (nI 1) :: st) sh M c s) := propext (mv_R_iff (i := .iconst 1) (len := 1) (ax := []) (by decide +kernel))
theorem e70_94 {y : Int32} {x : Int32} : mr70 S P 94 L (.int y :: .int x :: st) sh M c s = (mr70 S P 95 L (.int (x + y) :: st) sh M c s) := propext (mv_R_iff (i := .iadd) (len := 1) (ax := []) (by decide +kernel))
theorem e70_95 {x : Int32} {a : Nat} : mr70 S P 95 L (.int x :: .ref a :: st) sh M c s = (True ∧ mv_kpf sh M a 0 2 x (mr70 S P) 98 L st c s) := propext (mv_R_iff (i := .putfield 34) (len := 3) (ax := [238, 0, 0, 2, 0]) (by decide +kernel))
theorem e70_98 : mr70 S P 98 L st sh M c s = (q_isI (q_gv L 5) ∧ mr70 S P 100 L (q_gv L 5 :: st) sh M c s) := (propext (mv_R_iff (i := .iload 5) (len := 2) (ax := []) (by decide +kernel))).trans (q_ldI_eq (K := fun st => mr70 S P 100 L st sh M c s))
theorem e70_100 {x : Int32} : mr70 S P 100 L [.int x] sh M c s = (mv_nr 0 x ∧ P (some (.int x)) sh M) := propext (mv_R_iff (i := .ireturn) (len := 1) (ax := [0]) (by decide +kernel))
-- 52: Cloth.copyFrom(LTurnedTablets$Cloth;)V
def mk52 : mv_Cd := [
  (0, .aload_n 0, 1, []),
  (1, .aload_n 1, 1, []),
  (2, .getfield 34, 3, [238, 0, 0, 2]),
  (5, .putfield 34, 3, [238, 0, 0, 2, 0]),
  (8, .aload_n 1, 1, []),
  (9, .getfield 11, 3, [236, 0, 0, 0]),
  (12, .iconst 0, 1, []),
  (13, .aload_n 0, 1, []),
  (14, .getfield 11, 3, [236, 0, 0, 0]),
  (17, .iconst 0, 1, []),
  (18, .bipush 30, 2, []),
  (20, .invokestatic 38, 3, [10, 687, 313, 312, 116]),
  (23, .aload_n 1, 1, []),
  (24, .getfield 15, 3, [237, 0, 0, 1]),
  (27, .iconst 0, 1, []),
  (28, .aload_n 0, 1, []),
  (29, .getfield 15, 3, [237, 0, 0, 1]),
  (32, .iconst 0, 1, []),
  (33, .aload_n 0, 1, []),
  (34, .getfield 34, 3, [238, 0, 0, 2]),
  (37, .bipush 32, 2, []),
  (39, .imul, 1, []),
  (40, .invokestatic 38, 3, [10, 687, 313, 312, 116]),
  (43, .return_, 1, [])]
def mr52 (S : Nat → mv_Sp) (P : mv_Post) : mv_Kt := mv_R mv_DF mk52 S (0, 0) P
theorem e52_0 : mr52 S P 0 L st sh M c s = (q_isA (q_gv L 0) ∧ mr52 S P 1 L (q_gv L 0 :: st) sh M c s) := (propext (mv_R_iff (i := .aload_n 0) (len := 1) (ax := []) (by decide +kernel))).trans (q_ldA_eq (K := fun st => mr52 S P 1 L st sh M c s))
theorem e52_1 : mr52 S P 1 L st sh M c s = (q_isA (q_gv L 1) ∧ mr52 S P 2 L (q_gv L 1 :: st) sh M c s) := (propext (mv_R_iff (i := .aload_n 1) (len := 1) (ax := []) (by decide +kernel))).trans (q_ldA_eq (K := fun st => mr52 S P 2 L st sh M c s))
theorem e52_2 {a : Nat} : mr52 S P 2 L (.ref a :: st) sh M c s = (mv_kgf sh M a 0 2 (mr52 S P) 5 L st c s) := propext (mv_R_iff (i := .getfield 34) (len := 3) (ax := [238, 0, 0, 2]) (by decide +kernel))
theorem e52_5 {x : Int32} {a : Nat} : mr52 S P 5 L (.int x :: .ref a :: st) sh M c s = (True ∧ mv_kpf sh M a 0 2 x (mr52 S P) 8 L st c s) := propext (mv_R_iff (i := .putfield 34) (len := 3) (ax := [238, 0, 0, 2, 0]) (by decide +kernel))
theorem e52_8 : mr52 S P 8 L st sh M c s = (q_isA (q_gv L 1) ∧ mr52 S P 9 L (q_gv L 1 :: st) sh M c s) := (propext (mv_R_iff (i := .aload_n 1) (len := 1) (ax := []) (by decide +kernel))).trans (q_ldA_eq (K := fun st => mr52 S P 9 L st sh M c s))
theorem e52_9 {a : Nat} : mr52 S P 9 L (.ref a :: st) sh M c s = (mv_kgf sh M a 0 0 (mr52 S P) 12 L st c s) := propext (mv_R_iff (i := .getfield 11) (len := 3) (ax := [236, 0, 0, 0]) (by decide +kernel))
theorem e52_12 : mr52 S P 12 L st sh M c s = (mr52 S P 13 L (.int (nI 0) :: st) sh M c s) := propext (mv_R_iff (i := .iconst 0) (len := 1) (ax := []) (by decide +kernel))
theorem e52_13 : mr52 S P 13 L st sh M c s = (q_isA (q_gv L 0) ∧ mr52 S P 14 L (q_gv L 0 :: st) sh M c s) := (propext (mv_R_iff (i := .aload_n 0) (len := 1) (ax := []) (by decide +kernel))).trans (q_ldA_eq (K := fun st => mr52 S P 14 L st sh M c s))
theorem e52_14 {a : Nat} : mr52 S P 14 L (.ref a :: st) sh M c s = (mv_kgf sh M a 0 0 (mr52 S P) 17 L st c s) := propext (mv_R_iff (i := .getfield 11) (len := 3) (ax := [236, 0, 0, 0]) (by decide +kernel))
theorem e52_17 : mr52 S P 17 L st sh M c s = (mr52 S P 18 L (.int (nI 0) :: st) sh M c s) := propext (mv_R_iff (i := .iconst 0) (len := 1) (ax := []) (by decide +kernel))
theorem e52_18 : mr52 S P 18 L st sh M c s = (mr52 S P 20 L (.int (nI 30) :: st) sh M c s) := propext (mv_R_iff (i := .bipush 30) (len := 2) (ax := []) (by decide +kernel))
theorem e52_20 {n : Int32} {dp : Int32} {d : Nat} {sp : Int32} {a : Nat} : mr52 S P 20 L (.int n :: .int dp :: .ref d :: .int sp :: .ref a :: st) sh M c s = (mv_kcp sh M a sp d dp n (mr52 S P) 23 L st c s) := propext (mv_R_iff (i := .invokestatic 38) (len := 3) (ax := [10, 687, 313, 312, 116]) (by decide +kernel))
theorem e52_23 : mr52 S P 23 L st sh M c s = (q_isA (q_gv L 1) ∧ mr52 S P 24 L (q_gv L 1 :: st) sh M c s) := (propext (mv_R_iff (i := .aload_n 1) (len := 1) (ax := []) (by decide +kernel))).trans (q_ldA_eq (K := fun st => mr52 S P 24 L st sh M c s))
theorem e52_24 {a : Nat} : mr52 S P 24 L (.ref a :: st) sh M c s = (mv_kgf sh M a 0 1 (mr52 S P) 27 L st c s) := propext (mv_R_iff (i := .getfield 15) (len := 3) (ax := [237, 0, 0, 1]) (by decide +kernel))
theorem e52_27 : mr52 S P 27 L st sh M c s = (mr52 S P 28 L (.int (nI 0) :: st) sh M c s) := propext (mv_R_iff (i := .iconst 0) (len := 1) (ax := []) (by decide +kernel))
theorem e52_28 : mr52 S P 28 L st sh M c s = (q_isA (q_gv L 0) ∧ mr52 S P 29 L (q_gv L 0 :: st) sh M c s) := (propext (mv_R_iff (i := .aload_n 0) (len := 1) (ax := []) (by decide +kernel))).trans (q_ldA_eq (K := fun st => mr52 S P 29 L st sh M c s))
theorem e52_29 {a : Nat} : mr52 S P 29 L (.ref a :: st) sh M c s = (mv_kgf sh M a 0 1 (mr52 S P) 32 L st c s) := propext (mv_R_iff (i := .getfield 15) (len := 3) (ax := [237, 0, 0, 1]) (by decide +kernel))
theorem e52_32 : mr52 S P 32 L st sh M c s = (mr52 S P 33 L (.int (nI 0) :: st) sh M c s) := propext (mv_R_iff (i := .iconst 0) (len := 1) (ax := []) (by decide +kernel))
theorem e52_33 : mr52 S P 33 L st sh M c s = (q_isA (q_gv L 0) ∧ mr52 S P 34 L (q_gv L 0 :: st) sh M c s) := (propext (mv_R_iff (i := .aload_n 0) (len := 1) (ax := []) (by decide +kernel))).trans (q_ldA_eq (K := fun st => mr52 S P 34 L st sh M c s))
theorem e52_34 {a : Nat} : mr52 S P 34 L (.ref a :: st) sh M c s = (mv_kgf sh M a 0 2 (mr52 S P) 37 L st c s) := propext (mv_R_iff (i := .getfield 34) (len := 3) (ax := [238, 0, 0, 2]) (by decide +kernel))
theorem e52_37 : mr52 S P 37 L st sh M c s = (mr52 S P 39 L (.int (nI 32) :: st) sh M c s) := propext (mv_R_iff (i := .bipush 32) (len := 2) (ax := []) (by decide +kernel))
theorem e52_39 {y : Int32} {x : Int32} : mr52 S P 39 L (.int y :: .int x :: st) sh M c s = (mr52 S P 40 L (.int (x * y) :: st) sh M c s) := propext (mv_R_iff (i := .imul) (len := 1) (ax := []) (by decide +kernel))
theorem e52_40 {n : Int32} {dp : Int32} {d : Nat} {sp : Int32} {a : Nat} : mr52 S P 40 L (.int n :: .int dp :: .ref d :: .int sp :: .ref a :: st) sh M c s = (mv_kcp sh M a sp d dp n (mr52 S P) 43 L st c s) := propext (mv_R_iff (i := .invokestatic 38) (len := 3) (ax := [10, 687, 313, 312, 116]) (by decide +kernel))
theorem e52_43 : mr52 S P 43 L [] sh M c s = (P none sh M) := propext (mv_R_iff (i := .return_) (len := 1) (ax := []) (by decide +kernel))
-- 53: TurnedTablets.remember()V
def mk53 : mv_Cd := [
  (0, .aload_n 0, 1, []),
  (1, .getfield 42, 3, [528, 0, 4, 5]),
  (4, .aload_n 0, 1, []),
  (5, .getfield 186, 3, [529, 0, 4, 6]),
  (8, .bipush 7, 2, []),
  (10, .iand, 1, []),
  (11, .aaload, 1, []),
  (12, .aload_n 0, 1, []),
  (13, .getfield 35, 3, [526, 0, 4, 3]),
  (16, .invokevirtual 189, 3, [1, 52, 2, 0, 0, 0, 683, 685, 33, 111, 686]),
  (19, .aload_n 0, 1, []),
  (20, .dup, 1, []),
  (21, .getfield 186, 3, [529, 0, 4, 6]),
  (24, .iconst 1, 1, []),
  (25, .iadd, 1, []),
  (26, .putfield 186, 3, [529, 0, 4, 6, 0]),
  (29, .aload_n 0, 1, []),
  (30, .aload_n 0, 1, []),
  (31, .getfield 103, 3, [530, 0, 4, 7]),
  (34, .iconst 1, 1, []),
  (35, .iadd, 1, []),
  (36, .bipush 8, 2, []),
  (38, .invokestatic 273, 3, [11, 688, 309, 114, 310]),
  (41, .putfield 103, 3, [530, 0, 4, 7, 0]),
  (44, .return_, 1, [])]
def mr53 (S : Nat → mv_Sp) (P : mv_Post) : mv_Kt := mv_R mv_DF mk53 S (0, 0) P
theorem e53_0 : mr53 S P 0 L st sh M c s = (q_isA (q_gv L 0) ∧ mr53 S P 1 L (q_gv L 0 :: st) sh M c s) := (propext (mv_R_iff (i := .aload_n 0) (len := 1) (ax := []) (by decide +kernel))).trans (q_ldA_eq (K := fun st => mr53 S P 1 L st sh M c s))
theorem e53_1 {a : Nat} : mr53 S P 1 L (.ref a :: st) sh M c s = (mv_kgf sh M a 4 5 (mr53 S P) 4 L st c s) := propext (mv_R_iff (i := .getfield 42) (len := 3) (ax := [528, 0, 4, 5]) (by decide +kernel))
theorem e53_4 : mr53 S P 4 L st sh M c s = (q_isA (q_gv L 0) ∧ mr53 S P 5 L (q_gv L 0 :: st) sh M c s) := (propext (mv_R_iff (i := .aload_n 0) (len := 1) (ax := []) (by decide +kernel))).trans (q_ldA_eq (K := fun st => mr53 S P 5 L st sh M c s))
theorem e53_5 {a : Nat} : mr53 S P 5 L (.ref a :: st) sh M c s = (mv_kgf sh M a 4 6 (mr53 S P) 8 L st c s) := propext (mv_R_iff (i := .getfield 186) (len := 3) (ax := [529, 0, 4, 6]) (by decide +kernel))
theorem e53_8 : mr53 S P 8 L st sh M c s = (mr53 S P 10 L (.int (nI 7) :: st) sh M c s) := propext (mv_R_iff (i := .bipush 7) (len := 2) (ax := []) (by decide +kernel))
theorem e53_10 {y : Int32} {x : Int32} : mr53 S P 10 L (.int y :: .int x :: st) sh M c s = (mr53 S P 11 L (.int (x &&& y) :: st) sh M c s) := propext (mv_R_iff (i := .iand) (len := 1) (ax := []) (by decide +kernel))
theorem e53_11 {i : Int32} {a : Nat} : mr53 S P 11 L (.int i :: .ref a :: st) sh M c s = (mv_kal0 sh M a i (mr53 S P) 12 L st c s) := propext (mv_R_iff (i := .aaload) (len := 1) (ax := []) (by decide +kernel))
theorem e53_12 : mr53 S P 12 L st sh M c s = (q_isA (q_gv L 0) ∧ mr53 S P 13 L (q_gv L 0 :: st) sh M c s) := (propext (mv_R_iff (i := .aload_n 0) (len := 1) (ax := []) (by decide +kernel))).trans (q_ldA_eq (K := fun st => mr53 S P 13 L st sh M c s))
theorem e53_13 {a : Nat} : mr53 S P 13 L (.ref a :: st) sh M c s = (mv_kgf sh M a 4 3 (mr53 S P) 16 L st c s) := propext (mv_R_iff (i := .getfield 35) (len := 3) (ax := [526, 0, 4, 3]) (by decide +kernel))
theorem e53_16 {v2 : Value} {v1 : Value} : mr53 S P 16 L (v2 :: v1 :: st) sh M c s = (mv_ss st ≤ 8 ∧ c ≤ 0 ∧ s ≤ 0 ∧ mv_isO sh (some v1) 0 ∧ mv_kal S 52 [v1, v2] sh M (mr53 S P) 19 L st c s) := (propext (mv_R_iff (i := .invokevirtual 189) (len := 3) (ax := [1, 52, 2, 0, 0, 0, 683, 685, 33, 111, 686]) (by decide +kernel))).trans (q_call1)
theorem e53_19 : mr53 S P 19 L st sh M c s = (q_isA (q_gv L 0) ∧ mr53 S P 20 L (q_gv L 0 :: st) sh M c s) := (propext (mv_R_iff (i := .aload_n 0) (len := 1) (ax := []) (by decide +kernel))).trans (q_ldA_eq (K := fun st => mr53 S P 20 L st sh M c s))
theorem e53_20 {x : Int32} : mr53 S P 20 L (.int x :: st) sh M c s = (mr53 S P 21 L (.int x :: .int x :: st) sh M c s) := propext (mv_R_iff (i := .dup) (len := 1) (ax := []) (by decide +kernel))
theorem e53_20r {x : Nat} : mr53 S P 20 L (.ref x :: st) sh M c s = (mr53 S P 21 L (.ref x :: .ref x :: st) sh M c s) := propext (mv_R_iff (i := .dup) (len := 1) (ax := []) (by decide +kernel))
theorem e53_21 {a : Nat} : mr53 S P 21 L (.ref a :: st) sh M c s = (mv_kgf sh M a 4 6 (mr53 S P) 24 L st c s) := propext (mv_R_iff (i := .getfield 186) (len := 3) (ax := [529, 0, 4, 6]) (by decide +kernel))
theorem e53_24 : mr53 S P 24 L st sh M c s = (mr53 S P 25 L (.int (nI 1) :: st) sh M c s) := propext (mv_R_iff (i := .iconst 1) (len := 1) (ax := []) (by decide +kernel))
theorem e53_25 {y : Int32} {x : Int32} : mr53 S P 25 L (.int y :: .int x :: st) sh M c s = (mr53 S P 26 L (.int (x + y) :: st) sh M c s) := propext (mv_R_iff (i := .iadd) (len := 1) (ax := []) (by decide +kernel))
theorem e53_26 {x : Int32} {a : Nat} : mr53 S P 26 L (.int x :: .ref a :: st) sh M c s = (True ∧ mv_kpf sh M a 4 6 x (mr53 S P) 29 L st c s) := propext (mv_R_iff (i := .putfield 186) (len := 3) (ax := [529, 0, 4, 6, 0]) (by decide +kernel))
theorem e53_29 : mr53 S P 29 L st sh M c s = (q_isA (q_gv L 0) ∧ mr53 S P 30 L (q_gv L 0 :: st) sh M c s) := (propext (mv_R_iff (i := .aload_n 0) (len := 1) (ax := []) (by decide +kernel))).trans (q_ldA_eq (K := fun st => mr53 S P 30 L st sh M c s))
theorem e53_30 : mr53 S P 30 L st sh M c s = (q_isA (q_gv L 0) ∧ mr53 S P 31 L (q_gv L 0 :: st) sh M c s) := (propext (mv_R_iff (i := .aload_n 0) (len := 1) (ax := []) (by decide +kernel))).trans (q_ldA_eq (K := fun st => mr53 S P 31 L st sh M c s))
theorem e53_31 {a : Nat} : mr53 S P 31 L (.ref a :: st) sh M c s = (mv_kgf sh M a 4 7 (mr53 S P) 34 L st c s) := propext (mv_R_iff (i := .getfield 103) (len := 3) (ax := [530, 0, 4, 7]) (by decide +kernel))
theorem e53_34 : mr53 S P 34 L st sh M c s = (mr53 S P 35 L (.int (nI 1) :: st) sh M c s) := propext (mv_R_iff (i := .iconst 1) (len := 1) (ax := []) (by decide +kernel))
theorem e53_35 {y : Int32} {x : Int32} : mr53 S P 35 L (.int y :: .int x :: st) sh M c s = (mr53 S P 36 L (.int (x + y) :: st) sh M c s) := propext (mv_R_iff (i := .iadd) (len := 1) (ax := []) (by decide +kernel))
theorem e53_36 : mr53 S P 36 L st sh M c s = (mr53 S P 38 L (.int (nI 8) :: st) sh M c s) := propext (mv_R_iff (i := .bipush 8) (len := 2) (ax := []) (by decide +kernel))
theorem e53_38 {y : Int32} {x : Int32} : mr53 S P 38 L (.int y :: .int x :: st) sh M c s = (mv_ss st + 1 + 1 ≤ 8 ∧ mr53 S P 41 L (.int (if y < x then y else x) :: st) sh M c s) := propext (mv_R_iff (i := .invokestatic 273) (len := 3) (ax := [11, 688, 309, 114, 310]) (by decide +kernel))
theorem e53_41 {x : Int32} {a : Nat} : mr53 S P 41 L (.int x :: .ref a :: st) sh M c s = (True ∧ mv_kpf sh M a 4 7 x (mr53 S P) 44 L st c s) := propext (mv_R_iff (i := .putfield 103) (len := 3) (ax := [530, 0, 4, 7, 0]) (by decide +kernel))
theorem e53_44 : mr53 S P 44 L [] sh M c s = (P none sh M) := propext (mv_R_iff (i := .return_) (len := 1) (ax := []) (by decide +kernel))
-- 132: Cloth.unweaveRow()V
def mk132 : mv_Cd := [
  (0, .aload_n 0, 1, []),
  (1, .getfield 34, 3, [238, 0, 0, 2]),
  (4, .ifCond .le 45, 3, [49]),
  (7, .aload_n 0, 1, []),
  (8, .getfield 34, 3, [238, 0, 0, 2]),
  (11, .bipush 24, 2, []),
  (13, .if_icmp .gt 36, 3, [49]),
  (16, .aload_n 0, 1, []),
  (17, .dup, 1, []),
  (18, .getfield 34, 3, [238, 0, 0, 2]),
  (21, .iconst 1, 1, []),
  (22, .isub, 1, []),
  (23, .putfield 34, 3, [238, 0, 0, 2, 0]),
  (26, .aload_n 0, 1, []),
  (27, .getfield 15, 3, [237, 0, 0, 1]),
  (30, .aload_n 0, 1, []),
  (31, .getfield 34, 3, [238, 0, 0, 2]),
  (34, .bipush 32, 2, []),
  (36, .imul, 1, []),
  (37, .iconst 2, 1, []),
  (38, .iadd, 1, []),
  (39, .aload_n 0, 1, []),
  (40, .getfield 11, 3, [236, 0, 0, 0]),
  (43, .iconst 0, 1, []),
  (44, .bipush 30, 2, []),
  (46, .invokestatic 38, 3, [10, 687, 313, 312, 116]),
  (49, .return_, 1, [])]
def mr132 (S : Nat → mv_Sp) (P : mv_Post) : mv_Kt := mv_R mv_DF mk132 S (0, 0) P
theorem e132_0 : mr132 S P 0 L st sh M c s = (q_isA (q_gv L 0) ∧ mr132 S P 1 L (q_gv L 0 :: st) sh M c s) := (propext (mv_R_iff (i := .aload_n 0) (len := 1) (ax := []) (by decide +kernel))).trans (q_ldA_eq (K := fun st => mr132 S P 1 L st sh M c s))
theorem e132_1 {a : Nat} : mr132 S P 1 L (.ref a :: st) sh M c s = (mv_kgf sh M a 0 2 (mr132 S P) 4 L st c s) := propext (mv_R_iff (i := .getfield 34) (len := 3) (ax := [238, 0, 0, 2]) (by decide +kernel))
theorem e132_4 {x : Int32} : mr132 S P 4 L (.int x :: st) sh M c s = (if x ≤ nI 0 then mr132 S P 49 L st sh M c s else mr132 S P 7 L st sh M c s) := (propext (mv_R_iff (i := .ifCond .le 45) (len := 3) (ax := [49]) (by decide +kernel))).trans (q_br)
theorem e132_7 : mr132 S P 7 L st sh M c s = (q_isA (q_gv L 0) ∧ mr132 S P 8 L (q_gv L 0 :: st) sh M c s) := (propext (mv_R_iff (i := .aload_n 0) (len := 1) (ax := []) (by decide +kernel))).trans (q_ldA_eq (K := fun st => mr132 S P 8 L st sh M c s))
theorem e132_8 {a : Nat} : mr132 S P 8 L (.ref a :: st) sh M c s = (mv_kgf sh M a 0 2 (mr132 S P) 11 L st c s) := propext (mv_R_iff (i := .getfield 34) (len := 3) (ax := [238, 0, 0, 2]) (by decide +kernel))
theorem e132_11 : mr132 S P 11 L st sh M c s = (mr132 S P 13 L (.int (nI 24) :: st) sh M c s) := propext (mv_R_iff (i := .bipush 24) (len := 2) (ax := []) (by decide +kernel))
theorem e132_13 {y : Int32} {x : Int32} : mr132 S P 13 L (.int y :: .int x :: st) sh M c s = (if y < x then mr132 S P 49 L st sh M c s else mr132 S P 16 L st sh M c s) := (propext (mv_R_iff (i := .if_icmp .gt 36) (len := 3) (ax := [49]) (by decide +kernel))).trans (q_br)
theorem e132_16 : mr132 S P 16 L st sh M c s = (q_isA (q_gv L 0) ∧ mr132 S P 17 L (q_gv L 0 :: st) sh M c s) := (propext (mv_R_iff (i := .aload_n 0) (len := 1) (ax := []) (by decide +kernel))).trans (q_ldA_eq (K := fun st => mr132 S P 17 L st sh M c s))
theorem e132_17 {x : Int32} : mr132 S P 17 L (.int x :: st) sh M c s = (mr132 S P 18 L (.int x :: .int x :: st) sh M c s) := propext (mv_R_iff (i := .dup) (len := 1) (ax := []) (by decide +kernel))
theorem e132_17r {x : Nat} : mr132 S P 17 L (.ref x :: st) sh M c s = (mr132 S P 18 L (.ref x :: .ref x :: st) sh M c s) := propext (mv_R_iff (i := .dup) (len := 1) (ax := []) (by decide +kernel))
theorem e132_18 {a : Nat} : mr132 S P 18 L (.ref a :: st) sh M c s = (mv_kgf sh M a 0 2 (mr132 S P) 21 L st c s) := propext (mv_R_iff (i := .getfield 34) (len := 3) (ax := [238, 0, 0, 2]) (by decide +kernel))
theorem e132_21 : mr132 S P 21 L st sh M c s = (mr132 S P 22 L (.int (nI 1) :: st) sh M c s) := propext (mv_R_iff (i := .iconst 1) (len := 1) (ax := []) (by decide +kernel))
theorem e132_22 {y : Int32} {x : Int32} : mr132 S P 22 L (.int y :: .int x :: st) sh M c s = (mr132 S P 23 L (.int (x - y) :: st) sh M c s) := propext (mv_R_iff (i := .isub) (len := 1) (ax := []) (by decide +kernel))
theorem e132_23 {x : Int32} {a : Nat} : mr132 S P 23 L (.int x :: .ref a :: st) sh M c s = (True ∧ mv_kpf sh M a 0 2 x (mr132 S P) 26 L st c s) := propext (mv_R_iff (i := .putfield 34) (len := 3) (ax := [238, 0, 0, 2, 0]) (by decide +kernel))
theorem e132_26 : mr132 S P 26 L st sh M c s = (q_isA (q_gv L 0) ∧ mr132 S P 27 L (q_gv L 0 :: st) sh M c s) := (propext (mv_R_iff (i := .aload_n 0) (len := 1) (ax := []) (by decide +kernel))).trans (q_ldA_eq (K := fun st => mr132 S P 27 L st sh M c s))
theorem e132_27 {a : Nat} : mr132 S P 27 L (.ref a :: st) sh M c s = (mv_kgf sh M a 0 1 (mr132 S P) 30 L st c s) := propext (mv_R_iff (i := .getfield 15) (len := 3) (ax := [237, 0, 0, 1]) (by decide +kernel))
theorem e132_30 : mr132 S P 30 L st sh M c s = (q_isA (q_gv L 0) ∧ mr132 S P 31 L (q_gv L 0 :: st) sh M c s) := (propext (mv_R_iff (i := .aload_n 0) (len := 1) (ax := []) (by decide +kernel))).trans (q_ldA_eq (K := fun st => mr132 S P 31 L st sh M c s))
theorem e132_31 {a : Nat} : mr132 S P 31 L (.ref a :: st) sh M c s = (mv_kgf sh M a 0 2 (mr132 S P) 34 L st c s) := propext (mv_R_iff (i := .getfield 34) (len := 3) (ax := [238, 0, 0, 2]) (by decide +kernel))
theorem e132_34 : mr132 S P 34 L st sh M c s = (mr132 S P 36 L (.int (nI 32) :: st) sh M c s) := propext (mv_R_iff (i := .bipush 32) (len := 2) (ax := []) (by decide +kernel))
theorem e132_36 {y : Int32} {x : Int32} : mr132 S P 36 L (.int y :: .int x :: st) sh M c s = (mr132 S P 37 L (.int (x * y) :: st) sh M c s) := propext (mv_R_iff (i := .imul) (len := 1) (ax := []) (by decide +kernel))
theorem e132_37 : mr132 S P 37 L st sh M c s = (mr132 S P 38 L (.int (nI 2) :: st) sh M c s) := propext (mv_R_iff (i := .iconst 2) (len := 1) (ax := []) (by decide +kernel))
theorem e132_38 {y : Int32} {x : Int32} : mr132 S P 38 L (.int y :: .int x :: st) sh M c s = (mr132 S P 39 L (.int (x + y) :: st) sh M c s) := propext (mv_R_iff (i := .iadd) (len := 1) (ax := []) (by decide +kernel))
theorem e132_39 : mr132 S P 39 L st sh M c s = (q_isA (q_gv L 0) ∧ mr132 S P 40 L (q_gv L 0 :: st) sh M c s) := (propext (mv_R_iff (i := .aload_n 0) (len := 1) (ax := []) (by decide +kernel))).trans (q_ldA_eq (K := fun st => mr132 S P 40 L st sh M c s))
theorem e132_40 {a : Nat} : mr132 S P 40 L (.ref a :: st) sh M c s = (mv_kgf sh M a 0 0 (mr132 S P) 43 L st c s) := propext (mv_R_iff (i := .getfield 11) (len := 3) (ax := [236, 0, 0, 0]) (by decide +kernel))
theorem e132_43 : mr132 S P 43 L st sh M c s = (mr132 S P 44 L (.int (nI 0) :: st) sh M c s) := propext (mv_R_iff (i := .iconst 0) (len := 1) (ax := []) (by decide +kernel))
theorem e132_44 : mr132 S P 44 L st sh M c s = (mr132 S P 46 L (.int (nI 30) :: st) sh M c s) := propext (mv_R_iff (i := .bipush 30) (len := 2) (ax := []) (by decide +kernel))
theorem e132_46 {n : Int32} {dp : Int32} {d : Nat} {sp : Int32} {a : Nat} : mr132 S P 46 L (.int n :: .int dp :: .ref d :: .int sp :: .ref a :: st) sh M c s = (mv_kcp sh M a sp d dp n (mr132 S P) 49 L st c s) := propext (mv_R_iff (i := .invokestatic 38) (len := 3) (ax := [10, 687, 313, 312, 116]) (by decide +kernel))
theorem e132_49 : mr132 S P 49 L [] sh M c s = (P none sh M) := propext (mv_R_iff (i := .return_) (len := 1) (ax := []) (by decide +kernel))
-- 121: Cloth.rowColours(I)I
def mk121 : mv_Cd := [
  (0, .iload_n 1, 1, []),
  (1, .ifCond .lt 23, 3, [24]),
  (4, .iload_n 1, 1, []),
  (5, .bipush 24, 2, []),
  (7, .if_icmp .ge 17, 3, [24]),
  (10, .aload_n 0, 1, []),
  (11, .getfield 15, 3, [237, 0, 0, 1]),
  (14, .iload_n 1, 1, []),
  (15, .bipush 32, 2, []),
  (17, .imul, 1, []),
  (18, .iconst 0, 1, []),
  (19, .iadd, 1, []),
  (20, .iaload, 1, []),
  (21, .goto 4, 3, [25]),
  (24, .iconst 0, 1, []),
  (25, .ireturn, 1, [0])]
def mr121 (S : Nat → mv_Sp) (P : mv_Post) : mv_Kt := mv_R mv_DF mk121 S (0, 0) P
theorem e121_0 : mr121 S P 0 L st sh M c s = (q_isI (q_gv L 1) ∧ mr121 S P 1 L (q_gv L 1 :: st) sh M c s) := (propext (mv_R_iff (i := .iload_n 1) (len := 1) (ax := []) (by decide +kernel))).trans (q_ldI_eq (K := fun st => mr121 S P 1 L st sh M c s))
theorem e121_1 {x : Int32} : mr121 S P 1 L (.int x :: st) sh M c s = (if x < nI 0 then mr121 S P 24 L st sh M c s else mr121 S P 4 L st sh M c s) := (propext (mv_R_iff (i := .ifCond .lt 23) (len := 3) (ax := [24]) (by decide +kernel))).trans (q_br)
theorem e121_4 : mr121 S P 4 L st sh M c s = (q_isI (q_gv L 1) ∧ mr121 S P 5 L (q_gv L 1 :: st) sh M c s) := (propext (mv_R_iff (i := .iload_n 1) (len := 1) (ax := []) (by decide +kernel))).trans (q_ldI_eq (K := fun st => mr121 S P 5 L st sh M c s))
theorem e121_5 : mr121 S P 5 L st sh M c s = (mr121 S P 7 L (.int (nI 24) :: st) sh M c s) := propext (mv_R_iff (i := .bipush 24) (len := 2) (ax := []) (by decide +kernel))
theorem e121_7 {y : Int32} {x : Int32} : mr121 S P 7 L (.int y :: .int x :: st) sh M c s = (if y ≤ x then mr121 S P 24 L st sh M c s else mr121 S P 10 L st sh M c s) := (propext (mv_R_iff (i := .if_icmp .ge 17) (len := 3) (ax := [24]) (by decide +kernel))).trans (q_br)
theorem e121_10 : mr121 S P 10 L st sh M c s = (q_isA (q_gv L 0) ∧ mr121 S P 11 L (q_gv L 0 :: st) sh M c s) := (propext (mv_R_iff (i := .aload_n 0) (len := 1) (ax := []) (by decide +kernel))).trans (q_ldA_eq (K := fun st => mr121 S P 11 L st sh M c s))
theorem e121_11 {a : Nat} : mr121 S P 11 L (.ref a :: st) sh M c s = (mv_kgf sh M a 0 1 (mr121 S P) 14 L st c s) := propext (mv_R_iff (i := .getfield 15) (len := 3) (ax := [237, 0, 0, 1]) (by decide +kernel))
theorem e121_14 : mr121 S P 14 L st sh M c s = (q_isI (q_gv L 1) ∧ mr121 S P 15 L (q_gv L 1 :: st) sh M c s) := (propext (mv_R_iff (i := .iload_n 1) (len := 1) (ax := []) (by decide +kernel))).trans (q_ldI_eq (K := fun st => mr121 S P 15 L st sh M c s))
theorem e121_15 : mr121 S P 15 L st sh M c s = (mr121 S P 17 L (.int (nI 32) :: st) sh M c s) := propext (mv_R_iff (i := .bipush 32) (len := 2) (ax := []) (by decide +kernel))
theorem e121_17 {y : Int32} {x : Int32} : mr121 S P 17 L (.int y :: .int x :: st) sh M c s = (mr121 S P 18 L (.int (x * y) :: st) sh M c s) := propext (mv_R_iff (i := .imul) (len := 1) (ax := []) (by decide +kernel))
theorem e121_18 : mr121 S P 18 L st sh M c s = (mr121 S P 19 L (.int (nI 0) :: st) sh M c s) := propext (mv_R_iff (i := .iconst 0) (len := 1) (ax := []) (by decide +kernel))
theorem e121_19 {y : Int32} {x : Int32} : mr121 S P 19 L (.int y :: .int x :: st) sh M c s = (mr121 S P 20 L (.int (x + y) :: st) sh M c s) := propext (mv_R_iff (i := .iadd) (len := 1) (ax := []) (by decide +kernel))
theorem e121_20 {i : Int32} {a : Nat} : mr121 S P 20 L (.int i :: .ref a :: st) sh M c s = (mv_kld sh M a i (mr121 S P) 21 L st c s) := propext (mv_R_iff (i := .iaload) (len := 1) (ax := []) (by decide +kernel))
theorem e121_21 : mr121 S P 21 L st sh M c s = (mr121 S P 25 L st sh M c s) := propext (mv_R_iff (i := .goto 4) (len := 3) (ax := [25]) (by decide +kernel))
theorem e121_24 : mr121 S P 24 L st sh M c s = (mr121 S P 25 L (.int (nI 0) :: st) sh M c s) := propext (mv_R_iff (i := .iconst 0) (len := 1) (ax := []) (by decide +kernel))
theorem e121_25 {x : Int32} : mr121 S P 25 L [.int x] sh M c s = (mv_nr 0 x ∧ P (some (.int x)) sh M) := propext (mv_R_iff (i := .ireturn) (len := 1) (ax := [0]) (by decide +kernel))
-- 122: Cloth.rowSlants(I)I
def mk122 : mv_Cd := [
  (0, .iload_n 1, 1, []),
  (1, .ifCond .lt 23, 3, [24]),
  (4, .iload_n 1, 1, []),
  (5, .bipush 24, 2, []),
  (7, .if_icmp .ge 17, 3, [24]),
  (10, .aload_n 0, 1, []),
  (11, .getfield 15, 3, [237, 0, 0, 1]),
  (14, .iload_n 1, 1, []),
  (15, .bipush 32, 2, []),
  (17, .imul, 1, []),
  (18, .iconst 1, 1, []),
  (19, .iadd, 1, []),
  (20, .iaload, 1, []),
  (21, .goto 4, 3, [25]),
  (24, .iconst 0, 1, []),
  (25, .ireturn, 1, [0])]
def mr122 (S : Nat → mv_Sp) (P : mv_Post) : mv_Kt := mv_R mv_DF mk122 S (0, 0) P
theorem e122_0 : mr122 S P 0 L st sh M c s = (q_isI (q_gv L 1) ∧ mr122 S P 1 L (q_gv L 1 :: st) sh M c s) := (propext (mv_R_iff (i := .iload_n 1) (len := 1) (ax := []) (by decide +kernel))).trans (q_ldI_eq (K := fun st => mr122 S P 1 L st sh M c s))
theorem e122_1 {x : Int32} : mr122 S P 1 L (.int x :: st) sh M c s = (if x < nI 0 then mr122 S P 24 L st sh M c s else mr122 S P 4 L st sh M c s) := (propext (mv_R_iff (i := .ifCond .lt 23) (len := 3) (ax := [24]) (by decide +kernel))).trans (q_br)
theorem e122_4 : mr122 S P 4 L st sh M c s = (q_isI (q_gv L 1) ∧ mr122 S P 5 L (q_gv L 1 :: st) sh M c s) := (propext (mv_R_iff (i := .iload_n 1) (len := 1) (ax := []) (by decide +kernel))).trans (q_ldI_eq (K := fun st => mr122 S P 5 L st sh M c s))
theorem e122_5 : mr122 S P 5 L st sh M c s = (mr122 S P 7 L (.int (nI 24) :: st) sh M c s) := propext (mv_R_iff (i := .bipush 24) (len := 2) (ax := []) (by decide +kernel))
theorem e122_7 {y : Int32} {x : Int32} : mr122 S P 7 L (.int y :: .int x :: st) sh M c s = (if y ≤ x then mr122 S P 24 L st sh M c s else mr122 S P 10 L st sh M c s) := (propext (mv_R_iff (i := .if_icmp .ge 17) (len := 3) (ax := [24]) (by decide +kernel))).trans (q_br)
theorem e122_10 : mr122 S P 10 L st sh M c s = (q_isA (q_gv L 0) ∧ mr122 S P 11 L (q_gv L 0 :: st) sh M c s) := (propext (mv_R_iff (i := .aload_n 0) (len := 1) (ax := []) (by decide +kernel))).trans (q_ldA_eq (K := fun st => mr122 S P 11 L st sh M c s))
theorem e122_11 {a : Nat} : mr122 S P 11 L (.ref a :: st) sh M c s = (mv_kgf sh M a 0 1 (mr122 S P) 14 L st c s) := propext (mv_R_iff (i := .getfield 15) (len := 3) (ax := [237, 0, 0, 1]) (by decide +kernel))
theorem e122_14 : mr122 S P 14 L st sh M c s = (q_isI (q_gv L 1) ∧ mr122 S P 15 L (q_gv L 1 :: st) sh M c s) := (propext (mv_R_iff (i := .iload_n 1) (len := 1) (ax := []) (by decide +kernel))).trans (q_ldI_eq (K := fun st => mr122 S P 15 L st sh M c s))
theorem e122_15 : mr122 S P 15 L st sh M c s = (mr122 S P 17 L (.int (nI 32) :: st) sh M c s) := propext (mv_R_iff (i := .bipush 32) (len := 2) (ax := []) (by decide +kernel))
theorem e122_17 {y : Int32} {x : Int32} : mr122 S P 17 L (.int y :: .int x :: st) sh M c s = (mr122 S P 18 L (.int (x * y) :: st) sh M c s) := propext (mv_R_iff (i := .imul) (len := 1) (ax := []) (by decide +kernel))
theorem e122_18 : mr122 S P 18 L st sh M c s = (mr122 S P 19 L (.int (nI 1) :: st) sh M c s) := propext (mv_R_iff (i := .iconst 1) (len := 1) (ax := []) (by decide +kernel))
theorem e122_19 {y : Int32} {x : Int32} : mr122 S P 19 L (.int y :: .int x :: st) sh M c s = (mr122 S P 20 L (.int (x + y) :: st) sh M c s) := propext (mv_R_iff (i := .iadd) (len := 1) (ax := []) (by decide +kernel))
theorem e122_20 {i : Int32} {a : Nat} : mr122 S P 20 L (.int i :: .ref a :: st) sh M c s = (mv_kld sh M a i (mr122 S P) 21 L st c s) := propext (mv_R_iff (i := .iaload) (len := 1) (ax := []) (by decide +kernel))
theorem e122_21 : mr122 S P 21 L st sh M c s = (mr122 S P 25 L st sh M c s) := propext (mv_R_iff (i := .goto 4) (len := 3) (ax := [25]) (by decide +kernel))
theorem e122_24 : mr122 S P 24 L st sh M c s = (mr122 S P 25 L (.int (nI 0) :: st) sh M c s) := propext (mv_R_iff (i := .iconst 0) (len := 1) (ax := []) (by decide +kernel))
theorem e122_25 {x : Int32} : mr122 S P 25 L [.int x] sh M c s = (mv_nr 0 x ∧ P (some (.int x)) sh M) := propext (mv_R_iff (i := .ireturn) (len := 1) (ax := [0]) (by decide +kernel))
-- 94: Cloth.longFloats(I)I
def mk94 : mv_Cd := [
  (0, .iconst 0, 1, []),
  (1, .istore_n 2, 1, []),
  (2, .iconst 0, 1, []),
  (3, .istore_n 3, 1, []),
  (4, .iload_n 3, 1, []),
  (5, .iload_n 1, 1, []),
  (6, .if_icmp .ge 22, 3, [28]),
  (9, .aload_n 0, 1, []),
  (10, .iload_n 3, 1, []),
  (11, .iconst 2, 1, []),
  (12, .invokevirtual 44, 3, [0, 61, 3, 0, 0, 0, 0, 615, 608, 22, 111, 609]),
  (15, .iconst 4, 1, []),
  (16, .if_icmp .lt 6, 3, [22]),
  (19, .iinc 2 1, 3, []),
  (22, .iinc 3 1, 3, []),
  (25, .goto (-21), 3, [4]),
  (28, .iload_n 2, 1, []),
  (29, .ireturn, 1, [0])]
def mr94 (S : Nat → mv_Sp) (P : mv_Post) : mv_Kt := mv_R mv_DF mk94 S (0, 0) P
theorem e94_0 : mr94 S P 0 L st sh M c s = (mr94 S P 1 L (.int (nI 0) :: st) sh M c s) := propext (mv_R_iff (i := .iconst 0) (len := 1) (ax := []) (by decide +kernel))
theorem e94_1 {x : Int32} : mr94 S P 1 L (.int x :: st) sh M c s = (q_hs L 2 ∧ mr94 S P 2 (L.set 2 (some (.int x))) st sh M c s) := (propext (mv_R_iff (i := .istore_n 2) (len := 1) (ax := []) (by decide +kernel))).trans (q_st_eq (K := fun L => mr94 S P 2 L st sh M c s))
theorem e94_2 : mr94 S P 2 L st sh M c s = (mr94 S P 3 L (.int (nI 0) :: st) sh M c s) := propext (mv_R_iff (i := .iconst 0) (len := 1) (ax := []) (by decide +kernel))
theorem e94_3 {x : Int32} : mr94 S P 3 L (.int x :: st) sh M c s = (q_hs L 3 ∧ mr94 S P 4 (L.set 3 (some (.int x))) st sh M c s) := (propext (mv_R_iff (i := .istore_n 3) (len := 1) (ax := []) (by decide +kernel))).trans (q_st_eq (K := fun L => mr94 S P 4 L st sh M c s))
theorem e94_4 : mr94 S P 4 L st sh M c s = (q_isI (q_gv L 3) ∧ mr94 S P 5 L (q_gv L 3 :: st) sh M c s) := (propext (mv_R_iff (i := .iload_n 3) (len := 1) (ax := []) (by decide +kernel))).trans (q_ldI_eq (K := fun st => mr94 S P 5 L st sh M c s))
theorem e94_5 : mr94 S P 5 L st sh M c s = (q_isI (q_gv L 1) ∧ mr94 S P 6 L (q_gv L 1 :: st) sh M c s) := (propext (mv_R_iff (i := .iload_n 1) (len := 1) (ax := []) (by decide +kernel))).trans (q_ldI_eq (K := fun st => mr94 S P 6 L st sh M c s))
theorem e94_6 {y : Int32} {x : Int32} : mr94 S P 6 L (.int y :: .int x :: st) sh M c s = (if y ≤ x then mr94 S P 28 L st sh M c s else mr94 S P 9 L st sh M c s) := (propext (mv_R_iff (i := .if_icmp .ge 22) (len := 3) (ax := [28]) (by decide +kernel))).trans (q_br)
theorem e94_9 : mr94 S P 9 L st sh M c s = (q_isA (q_gv L 0) ∧ mr94 S P 10 L (q_gv L 0 :: st) sh M c s) := (propext (mv_R_iff (i := .aload_n 0) (len := 1) (ax := []) (by decide +kernel))).trans (q_ldA_eq (K := fun st => mr94 S P 10 L st sh M c s))
theorem e94_10 : mr94 S P 10 L st sh M c s = (q_isI (q_gv L 3) ∧ mr94 S P 11 L (q_gv L 3 :: st) sh M c s) := (propext (mv_R_iff (i := .iload_n 3) (len := 1) (ax := []) (by decide +kernel))).trans (q_ldI_eq (K := fun st => mr94 S P 11 L st sh M c s))
theorem e94_11 : mr94 S P 11 L st sh M c s = (mr94 S P 12 L (.int (nI 2) :: st) sh M c s) := propext (mv_R_iff (i := .iconst 2) (len := 1) (ax := []) (by decide +kernel))
theorem e94_12 {v3 : Value} {v2 : Value} {v1 : Value} : mr94 S P 12 L (v3 :: v2 :: v1 :: st) sh M c s = (mv_ss st ≤ 8 ∧ c ≤ 0 ∧ s ≤ 0 ∧ mv_isO sh (some v1) 0 ∧ mv_kal S 61 [v1, v2, v3] sh M (mr94 S P) 15 L st c s) := (propext (mv_R_iff (i := .invokevirtual 44) (len := 3) (ax := [0, 61, 3, 0, 0, 0, 0, 615, 608, 22, 111, 609]) (by decide +kernel))).trans (q_call0)
theorem e94_15 : mr94 S P 15 L st sh M c s = (mr94 S P 16 L (.int (nI 4) :: st) sh M c s) := propext (mv_R_iff (i := .iconst 4) (len := 1) (ax := []) (by decide +kernel))
theorem e94_16 {y : Int32} {x : Int32} : mr94 S P 16 L (.int y :: .int x :: st) sh M c s = (if x < y then mr94 S P 22 L st sh M c s else mr94 S P 19 L st sh M c s) := (propext (mv_R_iff (i := .if_icmp .lt 6) (len := 3) (ax := [22]) (by decide +kernel))).trans (q_br)
theorem e94_19 : mr94 S P 19 L st sh M c s = ((q_isI (q_gv L 2) ∧ q_hs L 2) ∧ mr94 S P 22 (L.set 2 (some (q_inc (q_gv L 2) (nI 1)))) st sh M c s) := (propext (mv_R_iff (i := .iinc 2 1) (len := 3) (ax := []) (by decide +kernel))).trans (q_inc_eq (K := fun L => mr94 S P 22 L st sh M c s))
theorem e94_22 : mr94 S P 22 L st sh M c s = ((q_isI (q_gv L 3) ∧ q_hs L 3) ∧ mr94 S P 25 (L.set 3 (some (q_inc (q_gv L 3) (nI 1)))) st sh M c s) := (propext (mv_R_iff (i := .iinc 3 1) (len := 3) (ax := []) (by decide +kernel))).trans (q_inc_eq (K := fun L => mr94 S P 25 L st sh M c s))
theorem e94_25 : mr94 S P 25 L st sh M c s = (mr94 S P 4 L st sh M c s) := propext (mv_R_iff (i := .goto (-21)) (len := 3) (ax := [4]) (by decide +kernel))
theorem e94_28 : mr94 S P 28 L st sh M c s = (q_isI (q_gv L 2) ∧ mr94 S P 29 L (q_gv L 2 :: st) sh M c s) := (propext (mv_R_iff (i := .iload_n 2) (len := 1) (ax := []) (by decide +kernel))).trans (q_ldI_eq (K := fun st => mr94 S P 29 L st sh M c s))
theorem e94_29 {x : Int32} : mr94 S P 29 L [.int x] sh M c s = (mv_nr 0 x ∧ P (some (.int x)) sh M) := propext (mv_R_iff (i := .ireturn) (len := 1) (ax := [0]) (by decide +kernel))
-- 125: Cloth.showsTurn(LTurnedTablets$Loom;II)Z
def mk125 : mv_Cd := [
  (0, .aload_n 0, 1, []),
  (1, .aload_n 1, 1, []),
  (2, .iload_n 2, 1, []),
  (3, .iload_n 3, 1, []),
  (4, .invokevirtual 65, 3, [0, 62, 4, 0, 0, 0, 0, 706, 708, 38, 111, 709]),
  (7, .ifCond .eq 5, 3, [12]),
  (10, .iconst 0, 1, []),
  (11, .ireturn, 1, [1]),
  (12, .aload_n 0, 1, []),
  (13, .iload_n 2, 1, []),
  (14, .iconst 0, 1, []),
  (15, .invokevirtual 44, 3, [0, 61, 3, 0, 0, 0, 0, 615, 608, 22, 111, 609]),
  (18, .istore 4, 2, []),
  (20, .iload 4, 2, []),
  (22, .aload_n 1, 1, []),
  (23, .iload_n 2, 1, []),
  (24, .iload_n 3, 1, []),
  (25, .invokevirtual 54, 3, [1, 60, 3, 1, 0, 0, 710, 712, 39, 109, 713]),
  (28, .iadd, 1, []),
  (29, .iconst 3, 1, []),
  (30, .iand, 1, []),
  (31, .istore 5, 2, []),
  (33, .aload_n 1, 1, []),
  (34, .iload_n 2, 1, []),
  (35, .iload 5, 2, []),
  (37, .invokevirtual 69, 3, [1, 29, 3, 1, 0, 0, 937, 458, 10, 109, 459]),
  (40, .aload_n 1, 1, []),
  (41, .iload_n 2, 1, []),
  (42, .iload 4, 2, []),
  (44, .invokevirtual 69, 3, [1, 29, 3, 1, 0, 0, 937, 458, 10, 109, 459]),
  (47, .if_icmp .eq 7, 3, [54]),
  (50, .iconst 1, 1, []),
  (51, .goto 4, 3, [55]),
  (54, .iconst 0, 1, []),
  (55, .ireturn, 1, [1])]
def mr125 (S : Nat → mv_Sp) (P : mv_Post) : mv_Kt := mv_R mv_DF mk125 S (0, 0) P
theorem e125_0 : mr125 S P 0 L st sh M c s = (q_isA (q_gv L 0) ∧ mr125 S P 1 L (q_gv L 0 :: st) sh M c s) := (propext (mv_R_iff (i := .aload_n 0) (len := 1) (ax := []) (by decide +kernel))).trans (q_ldA_eq (K := fun st => mr125 S P 1 L st sh M c s))
theorem e125_1 : mr125 S P 1 L st sh M c s = (q_isA (q_gv L 1) ∧ mr125 S P 2 L (q_gv L 1 :: st) sh M c s) := (propext (mv_R_iff (i := .aload_n 1) (len := 1) (ax := []) (by decide +kernel))).trans (q_ldA_eq (K := fun st => mr125 S P 2 L st sh M c s))
theorem e125_2 : mr125 S P 2 L st sh M c s = (q_isI (q_gv L 2) ∧ mr125 S P 3 L (q_gv L 2 :: st) sh M c s) := (propext (mv_R_iff (i := .iload_n 2) (len := 1) (ax := []) (by decide +kernel))).trans (q_ldI_eq (K := fun st => mr125 S P 3 L st sh M c s))
theorem e125_3 : mr125 S P 3 L st sh M c s = (q_isI (q_gv L 3) ∧ mr125 S P 4 L (q_gv L 3 :: st) sh M c s) := (propext (mv_R_iff (i := .iload_n 3) (len := 1) (ax := []) (by decide +kernel))).trans (q_ldI_eq (K := fun st => mr125 S P 4 L st sh M c s))
theorem e125_4 {v4 : Value} {v3 : Value} {v2 : Value} {v1 : Value} : mr125 S P 4 L (v4 :: v3 :: v2 :: v1 :: st) sh M c s = (mv_ss st ≤ 8 ∧ c ≤ 0 ∧ s ≤ 0 ∧ mv_isO sh (some v1) 0 ∧ mv_kal S 62 [v1, v2, v3, v4] sh M (mr125 S P) 7 L st c s) := (propext (mv_R_iff (i := .invokevirtual 65) (len := 3) (ax := [0, 62, 4, 0, 0, 0, 0, 706, 708, 38, 111, 709]) (by decide +kernel))).trans (q_call0)
theorem e125_7 {x : Int32} : mr125 S P 7 L (.int x :: st) sh M c s = (if x = nI 0 then mr125 S P 12 L st sh M c s else mr125 S P 10 L st sh M c s) := (propext (mv_R_iff (i := .ifCond .eq 5) (len := 3) (ax := [12]) (by decide +kernel))).trans (q_br)
theorem e125_10 : mr125 S P 10 L st sh M c s = (mr125 S P 11 L (.int (nI 0) :: st) sh M c s) := propext (mv_R_iff (i := .iconst 0) (len := 1) (ax := []) (by decide +kernel))
theorem e125_11 {x : Int32} : mr125 S P 11 L [.int x] sh M c s = (mv_nr 1 x ∧ P (some (.int x)) sh M) := propext (mv_R_iff (i := .ireturn) (len := 1) (ax := [1]) (by decide +kernel))
theorem e125_12 : mr125 S P 12 L st sh M c s = (q_isA (q_gv L 0) ∧ mr125 S P 13 L (q_gv L 0 :: st) sh M c s) := (propext (mv_R_iff (i := .aload_n 0) (len := 1) (ax := []) (by decide +kernel))).trans (q_ldA_eq (K := fun st => mr125 S P 13 L st sh M c s))
theorem e125_13 : mr125 S P 13 L st sh M c s = (q_isI (q_gv L 2) ∧ mr125 S P 14 L (q_gv L 2 :: st) sh M c s) := (propext (mv_R_iff (i := .iload_n 2) (len := 1) (ax := []) (by decide +kernel))).trans (q_ldI_eq (K := fun st => mr125 S P 14 L st sh M c s))
theorem e125_14 : mr125 S P 14 L st sh M c s = (mr125 S P 15 L (.int (nI 0) :: st) sh M c s) := propext (mv_R_iff (i := .iconst 0) (len := 1) (ax := []) (by decide +kernel))
theorem e125_15 {v3 : Value} {v2 : Value} {v1 : Value} : mr125 S P 15 L (v3 :: v2 :: v1 :: st) sh M c s = (mv_ss st ≤ 8 ∧ c ≤ 0 ∧ s ≤ 0 ∧ mv_isO sh (some v1) 0 ∧ mv_kal S 61 [v1, v2, v3] sh M (mr125 S P) 18 L st c s) := (propext (mv_R_iff (i := .invokevirtual 44) (len := 3) (ax := [0, 61, 3, 0, 0, 0, 0, 615, 608, 22, 111, 609]) (by decide +kernel))).trans (q_call0)
theorem e125_18 {x : Int32} : mr125 S P 18 L (.int x :: st) sh M c s = (q_hs L 4 ∧ mr125 S P 20 (L.set 4 (some (.int x))) st sh M c s) := (propext (mv_R_iff (i := .istore 4) (len := 2) (ax := []) (by decide +kernel))).trans (q_st_eq (K := fun L => mr125 S P 20 L st sh M c s))
theorem e125_20 : mr125 S P 20 L st sh M c s = (q_isI (q_gv L 4) ∧ mr125 S P 22 L (q_gv L 4 :: st) sh M c s) := (propext (mv_R_iff (i := .iload 4) (len := 2) (ax := []) (by decide +kernel))).trans (q_ldI_eq (K := fun st => mr125 S P 22 L st sh M c s))
theorem e125_22 : mr125 S P 22 L st sh M c s = (q_isA (q_gv L 1) ∧ mr125 S P 23 L (q_gv L 1 :: st) sh M c s) := (propext (mv_R_iff (i := .aload_n 1) (len := 1) (ax := []) (by decide +kernel))).trans (q_ldA_eq (K := fun st => mr125 S P 23 L st sh M c s))
theorem e125_23 : mr125 S P 23 L st sh M c s = (q_isI (q_gv L 2) ∧ mr125 S P 24 L (q_gv L 2 :: st) sh M c s) := (propext (mv_R_iff (i := .iload_n 2) (len := 1) (ax := []) (by decide +kernel))).trans (q_ldI_eq (K := fun st => mr125 S P 24 L st sh M c s))
theorem e125_24 : mr125 S P 24 L st sh M c s = (q_isI (q_gv L 3) ∧ mr125 S P 25 L (q_gv L 3 :: st) sh M c s) := (propext (mv_R_iff (i := .iload_n 3) (len := 1) (ax := []) (by decide +kernel))).trans (q_ldI_eq (K := fun st => mr125 S P 25 L st sh M c s))
theorem e125_25 {v3 : Value} {v2 : Value} {v1 : Value} : mr125 S P 25 L (v3 :: v2 :: v1 :: st) sh M c s = (mv_ss st ≤ 8 ∧ c ≤ 0 ∧ s ≤ 0 ∧ mv_isO sh (some v1) 1 ∧ mv_kal S 60 [v1, v2, v3] sh M (mr125 S P) 28 L st c s) := (propext (mv_R_iff (i := .invokevirtual 54) (len := 3) (ax := [1, 60, 3, 1, 0, 0, 710, 712, 39, 109, 713]) (by decide +kernel))).trans (q_call1)
theorem e125_28 {y : Int32} {x : Int32} : mr125 S P 28 L (.int y :: .int x :: st) sh M c s = (mr125 S P 29 L (.int (x + y) :: st) sh M c s) := propext (mv_R_iff (i := .iadd) (len := 1) (ax := []) (by decide +kernel))
theorem e125_29 : mr125 S P 29 L st sh M c s = (mr125 S P 30 L (.int (nI 3) :: st) sh M c s) := propext (mv_R_iff (i := .iconst 3) (len := 1) (ax := []) (by decide +kernel))
theorem e125_30 {y : Int32} {x : Int32} : mr125 S P 30 L (.int y :: .int x :: st) sh M c s = (mr125 S P 31 L (.int (x &&& y) :: st) sh M c s) := propext (mv_R_iff (i := .iand) (len := 1) (ax := []) (by decide +kernel))
theorem e125_31 {x : Int32} : mr125 S P 31 L (.int x :: st) sh M c s = (q_hs L 5 ∧ mr125 S P 33 (L.set 5 (some (.int x))) st sh M c s) := (propext (mv_R_iff (i := .istore 5) (len := 2) (ax := []) (by decide +kernel))).trans (q_st_eq (K := fun L => mr125 S P 33 L st sh M c s))
theorem e125_33 : mr125 S P 33 L st sh M c s = (q_isA (q_gv L 1) ∧ mr125 S P 34 L (q_gv L 1 :: st) sh M c s) := (propext (mv_R_iff (i := .aload_n 1) (len := 1) (ax := []) (by decide +kernel))).trans (q_ldA_eq (K := fun st => mr125 S P 34 L st sh M c s))
theorem e125_34 : mr125 S P 34 L st sh M c s = (q_isI (q_gv L 2) ∧ mr125 S P 35 L (q_gv L 2 :: st) sh M c s) := (propext (mv_R_iff (i := .iload_n 2) (len := 1) (ax := []) (by decide +kernel))).trans (q_ldI_eq (K := fun st => mr125 S P 35 L st sh M c s))
theorem e125_35 : mr125 S P 35 L st sh M c s = (q_isI (q_gv L 5) ∧ mr125 S P 37 L (q_gv L 5 :: st) sh M c s) := (propext (mv_R_iff (i := .iload 5) (len := 2) (ax := []) (by decide +kernel))).trans (q_ldI_eq (K := fun st => mr125 S P 37 L st sh M c s))
theorem e125_37 {v3 : Value} {v2 : Value} {v1 : Value} : mr125 S P 37 L (v3 :: v2 :: v1 :: st) sh M c s = (mv_ss st ≤ 8 ∧ c ≤ 0 ∧ s ≤ 0 ∧ mv_isO sh (some v1) 1 ∧ mv_kal S 29 [v1, v2, v3] sh M (mr125 S P) 40 L st c s) := (propext (mv_R_iff (i := .invokevirtual 69) (len := 3) (ax := [1, 29, 3, 1, 0, 0, 937, 458, 10, 109, 459]) (by decide +kernel))).trans (q_call1)
theorem e125_40 : mr125 S P 40 L st sh M c s = (q_isA (q_gv L 1) ∧ mr125 S P 41 L (q_gv L 1 :: st) sh M c s) := (propext (mv_R_iff (i := .aload_n 1) (len := 1) (ax := []) (by decide +kernel))).trans (q_ldA_eq (K := fun st => mr125 S P 41 L st sh M c s))
theorem e125_41 : mr125 S P 41 L st sh M c s = (q_isI (q_gv L 2) ∧ mr125 S P 42 L (q_gv L 2 :: st) sh M c s) := (propext (mv_R_iff (i := .iload_n 2) (len := 1) (ax := []) (by decide +kernel))).trans (q_ldI_eq (K := fun st => mr125 S P 42 L st sh M c s))
theorem e125_42 : mr125 S P 42 L st sh M c s = (q_isI (q_gv L 4) ∧ mr125 S P 44 L (q_gv L 4 :: st) sh M c s) := (propext (mv_R_iff (i := .iload 4) (len := 2) (ax := []) (by decide +kernel))).trans (q_ldI_eq (K := fun st => mr125 S P 44 L st sh M c s))
theorem e125_44 {v3 : Value} {v2 : Value} {v1 : Value} : mr125 S P 44 L (v3 :: v2 :: v1 :: st) sh M c s = (mv_ss st ≤ 8 ∧ c ≤ 0 ∧ s ≤ 0 ∧ mv_isO sh (some v1) 1 ∧ mv_kal S 29 [v1, v2, v3] sh M (mr125 S P) 47 L st c s) := (propext (mv_R_iff (i := .invokevirtual 69) (len := 3) (ax := [1, 29, 3, 1, 0, 0, 937, 458, 10, 109, 459]) (by decide +kernel))).trans (q_call1)
theorem e125_47 {y : Int32} {x : Int32} : mr125 S P 47 L (.int y :: .int x :: st) sh M c s = (if x = y then mr125 S P 54 L st sh M c s else mr125 S P 50 L st sh M c s) := (propext (mv_R_iff (i := .if_icmp .eq 7) (len := 3) (ax := [54]) (by decide +kernel))).trans (q_br)
theorem e125_50 : mr125 S P 50 L st sh M c s = (mr125 S P 51 L (.int (nI 1) :: st) sh M c s) := propext (mv_R_iff (i := .iconst 1) (len := 1) (ax := []) (by decide +kernel))
theorem e125_51 : mr125 S P 51 L st sh M c s = (mr125 S P 55 L st sh M c s) := propext (mv_R_iff (i := .goto 4) (len := 3) (ax := [55]) (by decide +kernel))
theorem e125_54 : mr125 S P 54 L st sh M c s = (mr125 S P 55 L (.int (nI 0) :: st) sh M c s) := propext (mv_R_iff (i := .iconst 0) (len := 1) (ax := []) (by decide +kernel))
theorem e125_55 {x : Int32} : mr125 S P 55 L [.int x] sh M c s = (mv_nr 1 x ∧ P (some (.int x)) sh M) := propext (mv_R_iff (i := .ireturn) (len := 1) (ax := [1]) (by decide +kernel))
end CD
