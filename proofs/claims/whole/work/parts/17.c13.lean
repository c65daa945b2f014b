/-! code lists and step rows, written by program -/
section CD
variable {S : Nat → mv_Sp} {P : mv_Post} {L : mv_Loc} {st : List Value} {sh : mv_Shp} {M : mv_Mem} {c s : Nat}
-- 0: AbstractStringBuilder.<init>(I)V (not here: [27])
def mk0 : mv_Cd := [
  (0, .aload_n 0, 1, []),
  (1, .invokespecial 3, 3, [13, 137, 127, 128]),
  (4, .getstatic 18, 3, [138, 0]),
  (7, .ifCond .eq 18, 3, [25]),
  (10, .aload_n 0, 1, []),
  (11, .iload_n 1, 1, []),
  (12, .newarray .byte, 2, [160, 1]),
  (14, .putfield 15, 3, [147, 0, 6, 0, 3]),
  (17, .aload_n 0, 1, []),
  (18, .iconst 0, 1, []),
  (19, .putfield 22, 3, [148, 0, 6, 1, 2]),
  (22, .goto 16, 3, [38]),
  (25, .aload_n 0, 1, []),
  (26, .iload_n 1, 1, []),
  (38, .return_, 1, [])]
def mr0 (S : Nat → mv_Sp) (P : mv_Post) : mv_Kt := mv_R mv_DF mk0 S (1, 16) P
theorem e0_0 : mr0 S P 0 L st sh M c s = (q_isA (q_gv L 0) ∧ mr0 S P 1 L (q_gv L 0 :: st) sh M c s) := (propext (mv_R_iff (i := .aload_n 0) (len := 1) (ax := []) (by decide +kernel))).trans (q_ldA_eq (K := fun st => mr0 S P 1 L st sh M c s))
theorem e0_1 {x : Nat} : mr0 S P 1 L (.ref x :: st) sh M c s = (mv_ss st + 1 ≤ 8 ∧ mr0 S P 4 L st sh M c s) := propext (mv_R_iff (i := .invokespecial 3) (len := 3) (ax := [13, 137, 127, 128]) (by decide +kernel))
theorem e0_4 : mr0 S P 4 L st sh M c s = (mr0 S P 7 L (.int (nI 1) :: st) sh M c s) := propext (mv_R_iff (i := .getstatic 18) (len := 3) (ax := [138, 0]) (by decide +kernel))
theorem e0_7 {x : Int32} : mr0 S P 7 L (.int x :: st) sh M c s = (if x = nI 0 then mr0 S P 25 L st sh M c s else mr0 S P 10 L st sh M c s) := (propext (mv_R_iff (i := .ifCond .eq 18) (len := 3) (ax := [25]) (by decide +kernel))).trans (q_br)
theorem e0_10 : mr0 S P 10 L st sh M c s = (q_isA (q_gv L 0) ∧ mr0 S P 11 L (q_gv L 0 :: st) sh M c s) := (propext (mv_R_iff (i := .aload_n 0) (len := 1) (ax := []) (by decide +kernel))).trans (q_ldA_eq (K := fun st => mr0 S P 11 L st sh M c s))
theorem e0_11 : mr0 S P 11 L st sh M c s = (q_isI (q_gv L 1) ∧ mr0 S P 12 L (q_gv L 1 :: st) sh M c s) := (propext (mv_R_iff (i := .iload_n 1) (len := 1) (ax := []) (by decide +kernel))).trans (q_ldI_eq (K := fun st => mr0 S P 12 L st sh M c s))
theorem e0_12 {n : Int32} : mr0 S P 12 L (.int n :: st) sh M c s = ((sh.length < 900 ∧ ¬ n < 0 ∧ n.toNatClampNeg ≤ 10000 ∧ c + 1 ≤ 1 ∧ s + n.toNatClampNeg ≤ 16) ∧ mr0 S P 14 L (.ref sh.length :: st) (sh ++ [.inl (1, n.toNatClampNeg)]) (mv_wr M sh.length (fun _ => 0)) (c + 1) (s + n.toNatClampNeg)) := propext (mv_R_iff (i := .newarray .byte) (len := 2) (ax := [160, 1]) (by decide +kernel))
theorem e0_14 {x : Nat} {a : Nat} : mr0 S P 14 L (.ref x :: .ref a :: st) sh M c s = (mv_kpr sh M a 6 0 x (mr0 S P) 17 L st c s) := (propext (mv_R_iff (i := .putfield 15) (len := 3) (ax := [147, 0, 6, 0, 3]) (by decide +kernel))).trans (q_tt)
theorem e0_17 : mr0 S P 17 L st sh M c s = (q_isA (q_gv L 0) ∧ mr0 S P 18 L (q_gv L 0 :: st) sh M c s) := (propext (mv_R_iff (i := .aload_n 0) (len := 1) (ax := []) (by decide +kernel))).trans (q_ldA_eq (K := fun st => mr0 S P 18 L st sh M c s))
theorem e0_18 : mr0 S P 18 L st sh M c s = (mr0 S P 19 L (.int (nI 0) :: st) sh M c s) := propext (mv_R_iff (i := .iconst 0) (len := 1) (ax := []) (by decide +kernel))
theorem e0_19 {x : Int32} {a : Nat} : mr0 S P 19 L (.int x :: .ref a :: st) sh M c s = ((x.toInt8.toInt32 = x) ∧ mv_kpf sh M a 6 1 x (mr0 S P) 22 L st c s) := propext (mv_R_iff (i := .putfield 22) (len := 3) (ax := [148, 0, 6, 1, 2]) (by decide +kernel))
theorem e0_22 : mr0 S P 22 L st sh M c s = (mr0 S P 38 L st sh M c s) := propext (mv_R_iff (i := .goto 16) (len := 3) (ax := [38]) (by decide +kernel))
theorem e0_25 : mr0 S P 25 L st sh M c s = (q_isA (q_gv L 0) ∧ mr0 S P 26 L (q_gv L 0 :: st) sh M c s) := (propext (mv_R_iff (i := .aload_n 0) (len := 1) (ax := []) (by decide +kernel))).trans (q_ldA_eq (K := fun st => mr0 S P 26 L st sh M c s))
theorem e0_26 : mr0 S P 26 L st sh M c s = (q_isI (q_gv L 1) ∧ mr0 S P 27 L (q_gv L 1 :: st) sh M c s) := (propext (mv_R_iff (i := .iload_n 1) (len := 1) (ax := []) (by decide +kernel))).trans (q_ldI_eq (K := fun st => mr0 S P 27 L st sh M c s))
theorem e0_38 : mr0 S P 38 L [] sh M c s = (P none sh M) := propext (mv_R_iff (i := .return_) (len := 1) (ax := []) (by decide +kernel))
-- 1: StringBuilder.<init>()V
def mk1 : mv_Cd := [
  (0, .aload_n 0, 1, []),
  (1, .bipush 16, 2, []),
  (3, .invokespecial 1, 3, [5, 0, 2, 6, 1, 16, 0, 134, 135, 105, 136]),
  (6, .return_, 1, [])]
def mr1 (S : Nat → mv_Sp) (P : mv_Post) : mv_Kt := mv_R mv_DF mk1 S (1, 16) P
theorem e1_0 : mr1 S P 0 L st sh M c s = (q_isA (q_gv L 0) ∧ mr1 S P 1 L (q_gv L 0 :: st) sh M c s) := (propext (mv_R_iff (i := .aload_n 0) (len := 1) (ax := []) (by decide +kernel))).trans (q_ldA_eq (K := fun st => mr1 S P 1 L st sh M c s))
theorem e1_1 : mr1 S P 1 L st sh M c s = (mr1 S P 3 L (.int (nI 16) :: st) sh M c s) := propext (mv_R_iff (i := .bipush 16) (len := 2) (ax := []) (by decide +kernel))
theorem e1_3 {v2 : Value} {v1 : Value} : mr1 S P 3 L (v2 :: v1 :: st) sh M c s = (mv_ss st ≤ 8 ∧ c + 1 ≤ 1 ∧ s + 16 ≤ 16 ∧ mv_isO sh (some v1) 6 ∧ mv_kal S 0 [v1, v2] sh M (mr1 S P) 6 L st (c + 1) (s + 16)) := (propext (mv_R_iff (i := .invokespecial 1) (len := 3) (ax := [5, 0, 2, 6, 1, 16, 0, 134, 135, 105, 136]) (by decide +kernel))).trans (q_call5)
theorem e1_6 : mr1 S P 6 L [] sh M c s = (P none sh M) := propext (mv_R_iff (i := .return_) (len := 1) (ax := []) (by decide +kernel))
-- 2: Loom.<init>()V
def mk2 : mv_Cd := [
  (0, .aload_n 0, 1, []),
  (1, .invokespecial 3, 3, [13, 166, 127, 128]),
  (4, .aload_n 0, 1, []),
  (5, .bipush 6, 2, []),
  (7, .newarray .int, 2, [210, 0]),
  (9, .putfield 9, 3, [183, 2, 1, 4, 3]),
  (12, .aload_n 0, 1, []),
  (13, .bipush 6, 2, []),
  (15, .newarray .int, 2, [210, 0]),
  (17, .putfield 15, 3, [184, 2, 1, 5, 3]),
  (20, .aload_n 0, 1, []),
  (21, .bipush 24, 2, []),
  (23, .newarray .int, 2, [210, 0]),
  (25, .putfield 18, 3, [185, 2, 1, 6, 3]),
  (28, .aload_n 0, 1, []),
  (29, .bipush 24, 2, []),
  (31, .newarray .int, 2, [210, 0]),
  (33, .putfield 21, 3, [186, 2, 1, 7, 3]),
  (36, .aload_n 0, 1, []),
  (37, .bipush 6, 2, []),
  (39, .newarray .int, 2, [210, 0]),
  (41, .putfield 24, 3, [187, 2, 1, 8, 3]),
  (44, .aload_n 0, 1, []),
  (45, .bipush 8, 2, []),
  (47, .newarray .int, 2, [210, 0]),
  (49, .putfield 27, 3, [188, 2, 1, 9, 3]),
  (52, .return_, 1, [])]
def mr2 (S : Nat → mv_Sp) (P : mv_Post) : mv_Kt := mv_R mv_DF mk2 S (6, 74) P
theorem e2_0 : mr2 S P 0 L st sh M c s = (q_isA (q_gv L 0) ∧ mr2 S P 1 L (q_gv L 0 :: st) sh M c s) := (propext (mv_R_iff (i := .aload_n 0) (len := 1) (ax := []) (by decide +kernel))).trans (q_ldA_eq (K := fun st => mr2 S P 1 L st sh M c s))
theorem e2_1 {x : Nat} : mr2 S P 1 L (.ref x :: st) sh M c s = (mv_ss st + 1 ≤ 8 ∧ mr2 S P 4 L st sh M c s) := propext (mv_R_iff (i := .invokespecial 3) (len := 3) (ax := [13, 166, 127, 128]) (by decide +kernel))
theorem e2_4 : mr2 S P 4 L st sh M c s = (q_isA (q_gv L 0) ∧ mr2 S P 5 L (q_gv L 0 :: st) sh M c s) := (propext (mv_R_iff (i := .aload_n 0) (len := 1) (ax := []) (by decide +kernel))).trans (q_ldA_eq (K := fun st => mr2 S P 5 L st sh M c s))
theorem e2_5 : mr2 S P 5 L st sh M c s = (mr2 S P 7 L (.int (nI 6) :: st) sh M c s) := propext (mv_R_iff (i := .bipush 6) (len := 2) (ax := []) (by decide +kernel))
theorem e2_7 {n : Int32} : mr2 S P 7 L (.int n :: st) sh M c s = ((sh.length < 900 ∧ ¬ n < 0 ∧ n.toNatClampNeg ≤ 10000 ∧ c + 1 ≤ 6 ∧ s + n.toNatClampNeg ≤ 74) ∧ mr2 S P 9 L (.ref sh.length :: st) (sh ++ [.inl (0, n.toNatClampNeg)]) (mv_wr M sh.length (fun _ => 0)) (c + 1) (s + n.toNatClampNeg)) := propext (mv_R_iff (i := .newarray .int) (len := 2) (ax := [210, 0]) (by decide +kernel))
theorem e2_9 {x : Nat} {a : Nat} : mr2 S P 9 L (.ref x :: .ref a :: st) sh M c s = (mv_kpr sh M a 1 4 x (mr2 S P) 12 L st c s) := (propext (mv_R_iff (i := .putfield 9) (len := 3) (ax := [183, 2, 1, 4, 3]) (by decide +kernel))).trans (q_tt)
theorem e2_12 : mr2 S P 12 L st sh M c s = (q_isA (q_gv L 0) ∧ mr2 S P 13 L (q_gv L 0 :: st) sh M c s) := (propext (mv_R_iff (i := .aload_n 0) (len := 1) (ax := []) (by decide +kernel))).trans (q_ldA_eq (K := fun st => mr2 S P 13 L st sh M c s))
theorem e2_13 : mr2 S P 13 L st sh M c s = (mr2 S P 15 L (.int (nI 6) :: st) sh M c s) := propext (mv_R_iff (i := .bipush 6) (len := 2) (ax := []) (by decide +kernel))
theorem e2_15 {n : Int32} : mr2 S P 15 L (.int n :: st) sh M c s = ((sh.length < 900 ∧ ¬ n < 0 ∧ n.toNatClampNeg ≤ 10000 ∧ c + 1 ≤ 6 ∧ s + n.toNatClampNeg ≤ 74) ∧ mr2 S P 17 L (.ref sh.length :: st) (sh ++ [.inl (0, n.toNatClampNeg)]) (mv_wr M sh.length (fun _ => 0)) (c + 1) (s + n.toNatClampNeg)) := propext (mv_R_iff (i := .newarray .int) (len := 2) (ax := [210, 0]) (by decide +kernel))
theorem e2_17 {x : Nat} {a : Nat} : mr2 S P 17 L (.ref x :: .ref a :: st) sh M c s = (mv_kpr sh M a 1 5 x (mr2 S P) 20 L st c s) := (propext (mv_R_iff (i := .putfield 15) (len := 3) (ax := [184, 2, 1, 5, 3]) (by decide +kernel))).trans (q_tt)
theorem e2_20 : mr2 S P 20 L st sh M c s = (q_isA (q_gv L 0) ∧ mr2 S P 21 L (q_gv L 0 :: st) sh M c s) := (propext (mv_R_iff (i := .aload_n 0) (len := 1) (ax := []) (by decide +kernel))).trans (q_ldA_eq (K := fun st => mr2 S P 21 L st sh M c s))
theorem e2_21 : mr2 S P 21 L st sh M c s = (mr2 S P 23 L (.int (nI 24) :: st) sh M c s) := propext (mv_R_iff (i := .bipush 24) (len := 2) (ax := []) (by decide +kernel))
theorem e2_23 {n : Int32} : mr2 S P 23 L (.int n :: st) sh M c s = ((sh.length < 900 ∧ ¬ n < 0 ∧ n.toNatClampNeg ≤ 10000 ∧ c + 1 ≤ 6 ∧ s + n.toNatClampNeg ≤ 74) ∧ mr2 S P 25 L (.ref sh.length :: st) (sh ++ [.inl (0, n.toNatClampNeg)]) (mv_wr M sh.length (fun _ => 0)) (c + 1) (s + n.toNatClampNeg)) := propext (mv_R_iff (i := .newarray .int) (len := 2) (ax := [210, 0]) (by decide +kernel))
theorem e2_25 {x : Nat} {a : Nat} : mr2 S P 25 L (.ref x :: .ref a :: st) sh M c s = (mv_kpr sh M a 1 6 x (mr2 S P) 28 L st c s) := (propext (mv_R_iff (i := .putfield 18) (len := 3) (ax := [185, 2, 1, 6, 3]) (by decide +kernel))).trans (q_tt)
theorem e2_28 : mr2 S P 28 L st sh M c s = (q_isA (q_gv L 0) ∧ mr2 S P 29 L (q_gv L 0 :: st) sh M c s) := (propext (mv_R_iff (i := .aload_n 0) (len := 1) (ax := []) (by decide +kernel))).trans (q_ldA_eq (K := fun st => mr2 S P 29 L st sh M c s))
theorem e2_29 : mr2 S P 29 L st sh M c s = (mr2 S P 31 L (.int (nI 24) :: st) sh M c s) := propext (mv_R_iff (i := .bipush 24) (len := 2) (ax := []) (by decide +kernel))
theorem e2_31 {n : Int32} : mr2 S P 31 L (.int n :: st) sh M c s = ((sh.length < 900 ∧ ¬ n < 0 ∧ n.toNatClampNeg ≤ 10000 ∧ c + 1 ≤ 6 ∧ s + n.toNatClampNeg ≤ 74) ∧ mr2 S P 33 L (.ref sh.length :: st) (sh ++ [.inl (0, n.toNatClampNeg)]) (mv_wr M sh.length (fun _ => 0)) (c + 1) (s + n.toNatClampNeg)) := propext (mv_R_iff (i := .newarray .int) (len := 2) (ax := [210, 0]) (by decide +kernel))
theorem e2_33 {x : Nat} {a : Nat} : mr2 S P 33 L (.ref x :: .ref a :: st) sh M c s = (mv_kpr sh M a 1 7 x (mr2 S P) 36 L st c s) := (propext (mv_R_iff (i := .putfield 21) (len := 3) (ax := [186, 2, 1, 7, 3]) (by decide +kernel))).trans (q_tt)
theorem e2_36 : mr2 S P 36 L st sh M c s = (q_isA (q_gv L 0) ∧ mr2 S P 37 L (q_gv L 0 :: st) sh M c s) := (propext (mv_R_iff (i := .aload_n 0) (len := 1) (ax := []) (by decide +kernel))).trans (q_ldA_eq (K := fun st => mr2 S P 37 L st sh M c s))
theorem e2_37 : mr2 S P 37 L st sh M c s = (mr2 S P 39 L (.int (nI 6) :: st) sh M c s) := propext (mv_R_iff (i := .bipush 6) (len := 2) (ax := []) (by decide +kernel))
theorem e2_39 {n : Int32} : mr2 S P 39 L (.int n :: st) sh M c s = ((sh.length < 900 ∧ ¬ n < 0 ∧ n.toNatClampNeg ≤ 10000 ∧ c + 1 ≤ 6 ∧ s + n.toNatClampNeg ≤ 74) ∧ mr2 S P 41 L (.ref sh.length :: st) (sh ++ [.inl (0, n.toNatClampNeg)]) (mv_wr M sh.length (fun _ => 0)) (c + 1) (s + n.toNatClampNeg)) := propext (mv_R_iff (i := .newarray .int) (len := 2) (ax := [210, 0]) (by decide +kernel))
theorem e2_41 {x : Nat} {a : Nat} : mr2 S P 41 L (.ref x :: .ref a :: st) sh M c s = (mv_kpr sh M a 1 8 x (mr2 S P) 44 L st c s) := (propext (mv_R_iff (i := .putfield 24) (len := 3) (ax := [187, 2, 1, 8, 3]) (by decide +kernel))).trans (q_tt)
theorem e2_44 : mr2 S P 44 L st sh M c s = (q_isA (q_gv L 0) ∧ mr2 S P 45 L (q_gv L 0 :: st) sh M c s) := (propext (mv_R_iff (i := .aload_n 0) (len := 1) (ax := []) (by decide +kernel))).trans (q_ldA_eq (K := fun st => mr2 S P 45 L st sh M c s))
theorem e2_45 : mr2 S P 45 L st sh M c s = (mr2 S P 47 L (.int (nI 8) :: st) sh M c s) := propext (mv_R_iff (i := .bipush 8) (len := 2) (ax := []) (by decide +kernel))
theorem e2_47 {n : Int32} : mr2 S P 47 L (.int n :: st) sh M c s = ((sh.length < 900 ∧ ¬ n < 0 ∧ n.toNatClampNeg ≤ 10000 ∧ c + 1 ≤ 6 ∧ s + n.toNatClampNeg ≤ 74) ∧ mr2 S P 49 L (.ref sh.length :: st) (sh ++ [.inl (0, n.toNatClampNeg)]) (mv_wr M sh.length (fun _ => 0)) (c + 1) (s + n.toNatClampNeg)) := propext (mv_R_iff (i := .newarray .int) (len := 2) (ax := [210, 0]) (by decide +kernel))
theorem e2_49 {x : Nat} {a : Nat} : mr2 S P 49 L (.ref x :: .ref a :: st) sh M c s = (mv_kpr sh M a 1 9 x (mr2 S P) 52 L st c s) := (propext (mv_R_iff (i := .putfield 27) (len := 3) (ax := [188, 2, 1, 9, 3]) (by decide +kernel))).trans (q_tt)
theorem e2_52 : mr2 S P 52 L [] sh M c s = (P none sh M) := propext (mv_R_iff (i := .return_) (len := 1) (ax := []) (by decide +kernel))
-- 3: Reader.<init>(Ljava/lang/StringBuilder;)V
def mk3 : mv_Cd := [
  (0, .aload_n 0, 1, []),
  (1, .invokespecial 3, 3, [13, 216, 127, 128]),
  (4, .aload_n 0, 1, []),
  (5, .new 9, 3, [217, 162, 109, 1, 10]),
  (8, .dup, 1, []),
  (9, .invokespecial 11, 3, [6, 2, 1, 1, 6, 74, 218, 164, 109, 165]),
  (12, .putfield 12, 3, [220, 2, 2, 1, 3]),
  (15, .aload_n 0, 1, []),
  (16, .aload_n 1, 1, []),
  (17, .putfield 18, 3, [219, 2, 2, 0, 3]),
  (20, .return_, 1, [])]
def mr3 (S : Nat → mv_Sp) (P : mv_Post) : mv_Kt := mv_R mv_DF mk3 S (7, 84) P
theorem e3_0 : mr3 S P 0 L st sh M c s = (q_isA (q_gv L 0) ∧ mr3 S P 1 L (q_gv L 0 :: st) sh M c s) := (propext (mv_R_iff (i := .aload_n 0) (len := 1) (ax := []) (by decide +kernel))).trans (q_ldA_eq (K := fun st => mr3 S P 1 L st sh M c s))
theorem e3_1 {x : Nat} : mr3 S P 1 L (.ref x :: st) sh M c s = (mv_ss st + 1 ≤ 8 ∧ mr3 S P 4 L st sh M c s) := propext (mv_R_iff (i := .invokespecial 3) (len := 3) (ax := [13, 216, 127, 128]) (by decide +kernel))
theorem e3_4 : mr3 S P 4 L st sh M c s = (q_isA (q_gv L 0) ∧ mr3 S P 5 L (q_gv L 0 :: st) sh M c s) := (propext (mv_R_iff (i := .aload_n 0) (len := 1) (ax := []) (by decide +kernel))).trans (q_ldA_eq (K := fun st => mr3 S P 5 L st sh M c s))
theorem e3_5 : mr3 S P 5 L st sh M c s = ((sh.length < 900 ∧ c + 1 ≤ 7 ∧ s + 10 ≤ 84) ∧ mr3 S P 8 L (.ref sh.length :: st) (sh ++ [.inr (.inl (1, [none, none, none, none, some .null, some .null, some .null, some .null, some .null, some .null]))]) (mv_wr M sh.length (fun _ => 0)) (c + 1) (s + 10)) := propext (mv_R_iff (i := .new 9) (len := 3) (ax := [217, 162, 109, 1, 10]) (by decide +kernel))
theorem e3_8 {x : Int32} : mr3 S P 8 L (.int x :: st) sh M c s = (mr3 S P 9 L (.int x :: .int x :: st) sh M c s) := propext (mv_R_iff (i := .dup) (len := 1) (ax := []) (by decide +kernel))
theorem e3_8r {x : Nat} : mr3 S P 8 L (.ref x :: st) sh M c s = (mr3 S P 9 L (.ref x :: .ref x :: st) sh M c s) := propext (mv_R_iff (i := .dup) (len := 1) (ax := []) (by decide +kernel))
theorem e3_9 {v1 : Value} : mr3 S P 9 L (v1 :: st) sh M c s = (mv_ss st ≤ 8 ∧ c + 6 ≤ 7 ∧ s + 74 ≤ 84 ∧ mv_isO sh (some v1) 1 ∧ mv_kal S 2 [v1] sh M (mr3 S P) 12 L st (c + 6) (s + 74)) := (propext (mv_R_iff (i := .invokespecial 11) (len := 3) (ax := [6, 2, 1, 1, 6, 74, 218, 164, 109, 165]) (by decide +kernel))).trans (q_call6)
theorem e3_12 {x : Nat} {a : Nat} : mr3 S P 12 L (.ref x :: .ref a :: st) sh M c s = (mv_kpr sh M a 2 1 x (mr3 S P) 15 L st c s) := (propext (mv_R_iff (i := .putfield 12) (len := 3) (ax := [220, 2, 2, 1, 3]) (by decide +kernel))).trans (q_tt)
theorem e3_15 : mr3 S P 15 L st sh M c s = (q_isA (q_gv L 0) ∧ mr3 S P 16 L (q_gv L 0 :: st) sh M c s) := (propext (mv_R_iff (i := .aload_n 0) (len := 1) (ax := []) (by decide +kernel))).trans (q_ldA_eq (K := fun st => mr3 S P 16 L st sh M c s))
theorem e3_16 : mr3 S P 16 L st sh M c s = (q_isA (q_gv L 1) ∧ mr3 S P 17 L (q_gv L 1 :: st) sh M c s) := (propext (mv_R_iff (i := .aload_n 1) (len := 1) (ax := []) (by decide +kernel))).trans (q_ldA_eq (K := fun st => mr3 S P 17 L st sh M c s))
theorem e3_17 {x : Nat} {a : Nat} : mr3 S P 17 L (.ref x :: .ref a :: st) sh M c s = (mv_kpr sh M a 2 0 x (mr3 S P) 20 L st c s) := (propext (mv_R_iff (i := .putfield 18) (len := 3) (ax := [219, 2, 2, 0, 3]) (by decide +kernel))).trans (q_tt)
theorem e3_20 : mr3 S P 20 L [] sh M c s = (P none sh M) := propext (mv_R_iff (i := .return_) (len := 1) (ax := []) (by decide +kernel))
-- 4: Cloth.<init>()V
def mk4 : mv_Cd := [
  (0, .aload_n 0, 1, []),
  (1, .invokespecial 5, 3, [13, 235, 127, 128]),
  (4, .aload_n 0, 1, []),
  (5, .bipush 30, 2, []),
  (7, .newarray .int, 2, [210, 0]),
  (9, .putfield 11, 3, [236, 2, 0, 0, 3]),
  (12, .aload_n 0, 1, []),
  (13, .sipush 768, 3, []),
  (16, .newarray .int, 2, [210, 0]),
  (18, .putfield 15, 3, [237, 2, 0, 1, 3]),
  (21, .return_, 1, [])]
def mr4 (S : Nat → mv_Sp) (P : mv_Post) : mv_Kt := mv_R mv_DF mk4 S (2, 798) P
theorem e4_0 : mr4 S P 0 L st sh M c s = (q_isA (q_gv L 0) ∧ mr4 S P 1 L (q_gv L 0 :: st) sh M c s) := (propext (mv_R_iff (i := .aload_n 0) (len := 1) (ax := []) (by decide +kernel))).trans (q_ldA_eq (K := fun st => mr4 S P 1 L st sh M c s))
theorem e4_1 {x : Nat} : mr4 S P 1 L (.ref x :: st) sh M c s = (mv_ss st + 1 ≤ 8 ∧ mr4 S P 4 L st sh M c s) := propext (mv_R_iff (i := .invokespecial 5) (len := 3) (ax := [13, 235, 127, 128]) (by decide +kernel))
theorem e4_4 : mr4 S P 4 L st sh M c s = (q_isA (q_gv L 0) ∧ mr4 S P 5 L (q_gv L 0 :: st) sh M c s) := (propext (mv_R_iff (i := .aload_n 0) (len := 1) (ax := []) (by decide +kernel))).trans (q_ldA_eq (K := fun st => mr4 S P 5 L st sh M c s))
theorem e4_5 : mr4 S P 5 L st sh M c s = (mr4 S P 7 L (.int (nI 30) :: st) sh M c s) := propext (mv_R_iff (i := .bipush 30) (len := 2) (ax := []) (by decide +kernel))
theorem e4_7 {n : Int32} : mr4 S P 7 L (.int n :: st) sh M c s = ((sh.length < 900 ∧ ¬ n < 0 ∧ n.toNatClampNeg ≤ 10000 ∧ c + 1 ≤ 2 ∧ s + n.toNatClampNeg ≤ 798) ∧ mr4 S P 9 L (.ref sh.length :: st) (sh ++ [.inl (0, n.toNatClampNeg)]) (mv_wr M sh.length (fun _ => 0)) (c + 1) (s + n.toNatClampNeg)) := propext (mv_R_iff (i := .newarray .int) (len := 2) (ax := [210, 0]) (by decide +kernel))
theorem e4_9 {x : Nat} {a : Nat} : mr4 S P 9 L (.ref x :: .ref a :: st) sh M c s = (mv_kpr sh M a 0 0 x (mr4 S P) 12 L st c s) := (propext (mv_R_iff (i := .putfield 11) (len := 3) (ax := [236, 2, 0, 0, 3]) (by decide +kernel))).trans (q_tt)
theorem e4_12 : mr4 S P 12 L st sh M c s = (q_isA (q_gv L 0) ∧ mr4 S P 13 L (q_gv L 0 :: st) sh M c s) := (propext (mv_R_iff (i := .aload_n 0) (len := 1) (ax := []) (by decide +kernel))).trans (q_ldA_eq (K := fun st => mr4 S P 13 L st sh M c s))
theorem e4_13 : mr4 S P 13 L st sh M c s = (mr4 S P 16 L (.int (nI 768) :: st) sh M c s) := propext (mv_R_iff (i := .sipush 768) (len := 3) (ax := []) (by decide +kernel))
theorem e4_16 {n : Int32} : mr4 S P 16 L (.int n :: st) sh M c s = ((sh.length < 900 ∧ ¬ n < 0 ∧ n.toNatClampNeg ≤ 10000 ∧ c + 1 ≤ 2 ∧ s + n.toNatClampNeg ≤ 798) ∧ mr4 S P 18 L (.ref sh.length :: st) (sh ++ [.inl (0, n.toNatClampNeg)]) (mv_wr M sh.length (fun _ => 0)) (c + 1) (s + n.toNatClampNeg)) := propext (mv_R_iff (i := .newarray .int) (len := 2) (ax := [210, 0]) (by decide +kernel))
theorem e4_18 {x : Nat} {a : Nat} : mr4 S P 18 L (.ref x :: .ref a :: st) sh M c s = (mv_kpr sh M a 0 1 x (mr4 S P) 21 L st c s) := (propext (mv_R_iff (i := .putfield 15) (len := 3) (ax := [237, 2, 0, 1, 3]) (by decide +kernel))).trans (q_tt)
theorem e4_21 : mr4 S P 21 L [] sh M c s = (P none sh M) := propext (mv_R_iff (i := .return_) (len := 1) (ax := []) (by decide +kernel))
-- 5: Search.<init>()V
def mk5 : mv_Cd := [
  (0, .aload_n 0, 1, []),
  (1, .invokespecial 3, 3, [13, 253, 127, 128]),
  (4, .aload_n 0, 1, []),
  (5, .sipush 4096, 3, []),
  (8, .newarray .int, 2, [210, 0]),
  (10, .putfield 9, 3, [254, 2, 3, 0, 3]),
  (13, .aload_n 0, 1, []),
  (14, .sipush 4096, 3, []),
  (17, .newarray .int, 2, [210, 0]),
  (19, .putfield 15, 3, [255, 2, 3, 1, 3]),
  (22, .aload_n 0, 1, []),
  (23, .bipush 12, 2, []),
  (25, .newarray .int, 2, [210, 0]),
  (27, .putfield 18, 3, [256, 2, 3, 2, 3]),
  (30, .return_, 1, [])]
def mr5 (S : Nat → mv_Sp) (P : mv_Post) : mv_Kt := mv_R mv_DF mk5 S (3, 8204) P
theorem e5_0 : mr5 S P 0 L st sh M c s = (q_isA (q_gv L 0) ∧ mr5 S P 1 L (q_gv L 0 :: st) sh M c s) := (propext (mv_R_iff (i := .aload_n 0) (len := 1) (ax := []) (by decide +kernel))).trans (q_ldA_eq (K := fun st => mr5 S P 1 L st sh M c s))
theorem e5_1 {x : Nat} : mr5 S P 1 L (.ref x :: st) sh M c s = (mv_ss st + 1 ≤ 8 ∧ mr5 S P 4 L st sh M c s) := propext (mv_R_iff (i := .invokespecial 3) (len := 3) (ax := [13, 253, 127, 128]) (by decide +kernel))
theorem e5_4 : mr5 S P 4 L st sh M c s = (q_isA (q_gv L 0) ∧ mr5 S P 5 L (q_gv L 0 :: st) sh M c s) := (propext (mv_R_iff (i := .aload_n 0) (len := 1) (ax := []) (by decide +kernel))).trans (q_ldA_eq (K := fun st => mr5 S P 5 L st sh M c s))
theorem e5_5 : mr5 S P 5 L st sh M c s = (mr5 S P 8 L (.int (nI 4096) :: st) sh M c s) := propext (mv_R_iff (i := .sipush 4096) (len := 3) (ax := []) (by decide +kernel))
theorem e5_8 {n : Int32} : mr5 S P 8 L (.int n :: st) sh M c s = ((sh.length < 900 ∧ ¬ n < 0 ∧ n.toNatClampNeg ≤ 10000 ∧ c + 1 ≤ 3 ∧ s + n.toNatClampNeg ≤ 8204) ∧ mr5 S P 10 L (.ref sh.length :: st) (sh ++ [.inl (0, n.toNatClampNeg)]) (mv_wr M sh.length (fun _ => 0)) (c + 1) (s + n.toNatClampNeg)) := propext (mv_R_iff (i := .newarray .int) (len := 2) (ax := [210, 0]) (by decide +kernel))
theorem e5_10 {x : Nat} {a : Nat} : mr5 S P 10 L (.ref x :: .ref a :: st) sh M c s = (mv_kpr sh M a 3 0 x (mr5 S P) 13 L st c s) := (propext (mv_R_iff (i := .putfield 9) (len := 3) (ax := [254, 2, 3, 0, 3]) (by decide +kernel))).trans (q_tt)
theorem e5_13 : mr5 S P 13 L st sh M c s = (q_isA (q_gv L 0) ∧ mr5 S P 14 L (q_gv L 0 :: st) sh M c s) := (propext (mv_R_iff (i := .aload_n 0) (len := 1) (ax := []) (by decide +kernel))).trans (q_ldA_eq (K := fun st => mr5 S P 14 L st sh M c s))
theorem e5_14 : mr5 S P 14 L st sh M c s = (mr5 S P 17 L (.int (nI 4096) :: st) sh M c s) := propext (mv_R_iff (i := .sipush 4096) (len := 3) (ax := []) (by decide +kernel))
theorem e5_17 {n : Int32} : mr5 S P 17 L (.int n :: st) sh M c s = ((sh.length < 900 ∧ ¬ n < 0 ∧ n.toNatClampNeg ≤ 10000 ∧ c + 1 ≤ 3 ∧ s + n.toNatClampNeg ≤ 8204) ∧ mr5 S P 19 L (.ref sh.length :: st) (sh ++ [.inl (0, n.toNatClampNeg)]) (mv_wr M sh.length (fun _ => 0)) (c + 1) (s + n.toNatClampNeg)) := propext (mv_R_iff (i := .newarray .int) (len := 2) (ax := [210, 0]) (by decide +kernel))
theorem e5_19 {x : Nat} {a : Nat} : mr5 S P 19 L (.ref x :: .ref a :: st) sh M c s = (mv_kpr sh M a 3 1 x (mr5 S P) 22 L st c s) := (propext (mv_R_iff (i := .putfield 15) (len := 3) (ax := [255, 2, 3, 1, 3]) (by decide +kernel))).trans (q_tt)
theorem e5_22 : mr5 S P 22 L st sh M c s = (q_isA (q_gv L 0) ∧ mr5 S P 23 L (q_gv L 0 :: st) sh M c s) := (propext (mv_R_iff (i := .aload_n 0) (len := 1) (ax := []) (by decide +kernel))).trans (q_ldA_eq (K := fun st => mr5 S P 23 L st sh M c s))
theorem e5_23 : mr5 S P 23 L st sh M c s = (mr5 S P 25 L (.int (nI 12) :: st) sh M c s) := propext (mv_R_iff (i := .bipush 12) (len := 2) (ax := []) (by decide +kernel))
theorem e5_25 {n : Int32} : mr5 S P 25 L (.int n :: st) sh M c s = ((sh.length < 900 ∧ ¬ n < 0 ∧ n.toNatClampNeg ≤ 10000 ∧ c + 1 ≤ 3 ∧ s + n.toNatClampNeg ≤ 8204) ∧ mr5 S P 27 L (.ref sh.length :: st) (sh ++ [.inl (0, n.toNatClampNeg)]) (mv_wr M sh.length (fun _ => 0)) (c + 1) (s + n.toNatClampNeg)) := propext (mv_R_iff (i := .newarray .int) (len := 2) (ax := [210, 0]) (by decide +kernel))
theorem e5_27 {x : Nat} {a : Nat} : mr5 S P 27 L (.ref x :: .ref a :: st) sh M c s = (mv_kpr sh M a 3 2 x (mr5 S P) 30 L st c s) := (propext (mv_R_iff (i := .putfield 18) (len := 3) (ax := [256, 2, 3, 2, 3]) (by decide +kernel))).trans (q_tt)
theorem e5_30 : mr5 S P 30 L [] sh M c s = (P none sh M) := propext (mv_R_iff (i := .return_) (len := 1) (ax := []) (by decide +kernel))
-- 6: String.coder()B
def mk6 : mv_Cd := [
  (0, .getstatic 38, 3, [353, 0]),
  (3, .ifCond .eq 10, 3, [13]),
  (6, .aload_n 0, 1, []),
  (7, .getfield 15, 3, [1403, 5, 0, 0]),
  (10, .goto 4, 3, [14]),
  (13, .iconst 1, 1, []),
  (14, .ireturn, 1, [3])]
def mr6 (S : Nat → mv_Sp) (P : mv_Post) : mv_Kt := mv_R mv_DF mk6 S (0, 0) P
theorem e6_0 : mr6 S P 0 L st sh M c s = (mr6 S P 3 L (.int (nI 1) :: st) sh M c s) := propext (mv_R_iff (i := .getstatic 38) (len := 3) (ax := [353, 0]) (by decide +kernel))
theorem e6_3 {x : Int32} : mr6 S P 3 L (.int x :: st) sh M c s = (if x = nI 0 then mr6 S P 13 L st sh M c s else mr6 S P 6 L st sh M c s) := (propext (mv_R_iff (i := .ifCond .eq 10) (len := 3) (ax := [13]) (by decide +kernel))).trans (q_br)
theorem e6_6 : mr6 S P 6 L st sh M c s = (q_isA (q_gv L 0) ∧ mr6 S P 7 L (q_gv L 0 :: st) sh M c s) := (propext (mv_R_iff (i := .aload_n 0) (len := 1) (ax := []) (by decide +kernel))).trans (q_ldA_eq (K := fun st => mr6 S P 7 L st sh M c s))
theorem e6_7 {a : Nat} : mr6 S P 7 L (.ref a :: st) sh M c s = (a = 1000 ∧ mr6 S P 10 L (.int (nI 0) :: st) sh M c s) := propext (mv_R_iff (i := .getfield 15) (len := 3) (ax := [1403, 5, 0, 0]) (by decide +kernel))
theorem e6_10 : mr6 S P 10 L st sh M c s = (mr6 S P 14 L st sh M c s) := propext (mv_R_iff (i := .goto 4) (len := 3) (ax := [14]) (by decide +kernel))
theorem e6_13 : mr6 S P 13 L st sh M c s = (mr6 S P 14 L (.int (nI 1) :: st) sh M c s) := propext (mv_R_iff (i := .iconst 1) (len := 1) (ax := []) (by decide +kernel))
theorem e6_14 {x : Int32} : mr6 S P 14 L [.int x] sh M c s = (mv_nr 3 x ∧ P (some (.int x)) sh M) := propext (mv_R_iff (i := .ireturn) (len := 1) (ax := [3]) (by decide +kernel))
-- 7: String.length()I
def mk7 : mv_Cd := [
  (0, .aload_n 0, 1, []),
  (1, .getfield 9, 3, [1402, 5, 0, 1]),
  (4, .arraylength, 1, [1]),
  (5, .aload_n 0, 1, []),
  (6, .invokevirtual 335, 3, [8, 6, 1, 0, 0, 0, 0, 349, 350, 351, 107, 352]),
  (9, .ishr, 1, []),
  (10, .ireturn, 1, [0])]
def mr7 (S : Nat → mv_Sp) (P : mv_Post) : mv_Kt := mv_R mv_DF mk7 S (0, 0) P
theorem e7_0 : mr7 S P 0 L st sh M c s = (q_isA (q_gv L 0) ∧ mr7 S P 1 L (q_gv L 0 :: st) sh M c s) := (propext (mv_R_iff (i := .aload_n 0) (len := 1) (ax := []) (by decide +kernel))).trans (q_ldA_eq (K := fun st => mr7 S P 1 L st sh M c s))
theorem e7_1 {a : Nat} : mr7 S P 1 L (.ref a :: st) sh M c s = (a = 1000 ∧ mr7 S P 4 L (.ref 1001 :: st) sh M c s) := propext (mv_R_iff (i := .getfield 9) (len := 3) (ax := [1402, 5, 0, 1]) (by decide +kernel))
theorem e7_4 {a : Nat} : mr7 S P 4 L (.ref a :: st) sh M c s = (a = 1001 ∧ mr7 S P 5 L (.int (nI 96) :: st) sh M c s) := propext (mv_R_iff (i := .arraylength) (len := 1) (ax := [1]) (by decide +kernel))
theorem e7_5 : mr7 S P 5 L st sh M c s = (q_isA (q_gv L 0) ∧ mr7 S P 6 L (q_gv L 0 :: st) sh M c s) := (propext (mv_R_iff (i := .aload_n 0) (len := 1) (ax := []) (by decide +kernel))).trans (q_ldA_eq (K := fun st => mr7 S P 6 L st sh M c s))
theorem e7_6 {v1 : Value} : mr7 S P 6 L (v1 :: st) sh M c s = (mv_ss st ≤ 8 ∧ c ≤ 0 ∧ s ≤ 0 ∧ some v1 = some (.ref 1000) ∧ mv_kal S 6 [v1] sh M (mr7 S P) 9 L st c s) := (propext (mv_R_iff (i := .invokevirtual 335) (len := 3) (ax := [8, 6, 1, 0, 0, 0, 0, 349, 350, 351, 107, 352]) (by decide +kernel))).trans (q_call8)
theorem e7_9 {y : Int32} {x : Int32} : mr7 S P 9 L (.int y :: .int x :: st) sh M c s = (mr7 S P 10 L (.int (x >>> (y &&& 31)) :: st) sh M c s) := propext (mv_R_iff (i := .ishr) (len := 1) (ax := []) (by decide +kernel))
theorem e7_10 {x : Int32} : mr7 S P 10 L [.int x] sh M c s = (mv_nr 0 x ∧ P (some (.int x)) sh M) := propext (mv_R_iff (i := .ireturn) (len := 1) (ax := [0]) (by decide +kernel))
-- 13: AbstractStringBuilder.inflateIfNeededFor(Ljava/lang/String;)V (not here: [18])
def mk13 : mv_Cd := [
  (0, .getstatic 18, 3, [138, 0]),
  (3, .ifCond .eq 18, 3, [21]),
  (6, .aload_n 0, 1, []),
  (7, .getfield 22, 3, [148, 0, 6, 1]),
  (10, .aload_n 1, 1, []),
  (11, .invokevirtual 40, 3, [8, 6, 1, 0, 0, 0, 0, 362, 350, 351, 107, 352]),
  (14, .if_icmp .eq 7, 3, [21]),
  (17, .aload_n 0, 1, []),
  (21, .return_, 1, [])]
def mr13 (S : Nat → mv_Sp) (P : mv_Post) : mv_Kt := mv_R mv_DF mk13 S (0, 0) P
theorem e13_0 : mr13 S P 0 L st sh M c s = (mr13 S P 3 L (.int (nI 1) :: st) sh M c s) := propext (mv_R_iff (i := .getstatic 18) (len := 3) (ax := [138, 0]) (by decide +kernel))
theorem e13_3 {x : Int32} : mr13 S P 3 L (.int x :: st) sh M c s = (if x = nI 0 then mr13 S P 21 L st sh M c s else mr13 S P 6 L st sh M c s) := (propext (mv_R_iff (i := .ifCond .eq 18) (len := 3) (ax := [21]) (by decide +kernel))).trans (q_br)
theorem e13_6 : mr13 S P 6 L st sh M c s = (q_isA (q_gv L 0) ∧ mr13 S P 7 L (q_gv L 0 :: st) sh M c s) := (propext (mv_R_iff (i := .aload_n 0) (len := 1) (ax := []) (by decide +kernel))).trans (q_ldA_eq (K := fun st => mr13 S P 7 L st sh M c s))
theorem e13_7 {a : Nat} : mr13 S P 7 L (.ref a :: st) sh M c s = (mv_kgf sh M a 6 1 (mr13 S P) 10 L st c s) := propext (mv_R_iff (i := .getfield 22) (len := 3) (ax := [148, 0, 6, 1]) (by decide +kernel))
theorem e13_10 : mr13 S P 10 L st sh M c s = (q_isA (q_gv L 1) ∧ mr13 S P 11 L (q_gv L 1 :: st) sh M c s) := (propext (mv_R_iff (i := .aload_n 1) (len := 1) (ax := []) (by decide +kernel))).trans (q_ldA_eq (K := fun st => mr13 S P 11 L st sh M c s))
theorem e13_11 {v1 : Value} : mr13 S P 11 L (v1 :: st) sh M c s = (mv_ss st ≤ 8 ∧ c ≤ 0 ∧ s ≤ 0 ∧ some v1 = some (.ref 1000) ∧ mv_kal S 6 [v1] sh M (mr13 S P) 14 L st c s) := (propext (mv_R_iff (i := .invokevirtual 40) (len := 3) (ax := [8, 6, 1, 0, 0, 0, 0, 362, 350, 351, 107, 352]) (by decide +kernel))).trans (q_call8)
theorem e13_14 {y : Int32} {x : Int32} : mr13 S P 14 L (.int y :: .int x :: st) sh M c s = (if x = y then mr13 S P 21 L st sh M c s else mr13 S P 17 L st sh M c s) := (propext (mv_R_iff (i := .if_icmp .eq 7) (len := 3) (ax := [21]) (by decide +kernel))).trans (q_br)
theorem e13_17 : mr13 S P 17 L st sh M c s = (q_isA (q_gv L 0) ∧ mr13 S P 18 L (q_gv L 0 :: st) sh M c s) := (propext (mv_R_iff (i := .aload_n 0) (len := 1) (ax := []) (by decide +kernel))).trans (q_ldA_eq (K := fun st => mr13 S P 18 L st sh M c s))
theorem e13_21 : mr13 S P 21 L [] sh M c s = (P none sh M) := propext (mv_R_iff (i := .return_) (len := 1) (ax := []) (by decide +kernel))
-- 14: String.getBytes([BIB)V (not here: [40])
def mk14 : mv_Cd := [
  (0, .aload_n 0, 1, []),
  (1, .invokevirtual 335, 3, [8, 6, 1, 0, 0, 0, 0, 349, 350, 351, 107, 352]),
  (4, .iload_n 3, 1, []),
  (5, .if_icmp .ne 23, 3, [28]),
  (8, .aload_n 0, 1, []),
  (9, .getfield 9, 3, [1402, 5, 0, 1]),
  (12, .iconst 0, 1, []),
  (13, .aload_n 1, 1, []),
  (14, .iload_n 2, 1, []),
  (15, .iload_n 3, 1, []),
  (16, .ishl, 1, []),
  (17, .aload_n 0, 1, []),
  (18, .getfield 9, 3, [1402, 5, 0, 1]),
  (21, .arraylength, 1, [1]),
  (22, .invokestatic 212, 3, [14, 386, 313, 312, 116]),
  (25, .goto 18, 3, [43]),
  (28, .aload_n 0, 1, []),
  (29, .getfield 9, 3, [1402, 5, 0, 1]),
  (32, .iconst 0, 1, []),
  (33, .aload_n 1, 1, []),
  (34, .iload_n 2, 1, []),
  (35, .aload_n 0, 1, []),
  (36, .getfield 9, 3, [1402, 5, 0, 1]),
  (39, .arraylength, 1, [1]),
  (43, .return_, 1, [])]
def mr14 (S : Nat → mv_Sp) (P : mv_Post) : mv_Kt := mv_R mv_DF mk14 S (0, 0) P
theorem e14_0 : mr14 S P 0 L st sh M c s = (q_isA (q_gv L 0) ∧ mr14 S P 1 L (q_gv L 0 :: st) sh M c s) := (propext (mv_R_iff (i := .aload_n 0) (len := 1) (ax := []) (by decide +kernel))).trans (q_ldA_eq (K := fun st => mr14 S P 1 L st sh M c s))
theorem e14_1 {v1 : Value} : mr14 S P 1 L (v1 :: st) sh M c s = (mv_ss st ≤ 8 ∧ c ≤ 0 ∧ s ≤ 0 ∧ some v1 = some (.ref 1000) ∧ mv_kal S 6 [v1] sh M (mr14 S P) 4 L st c s) := (propext (mv_R_iff (i := .invokevirtual 335) (len := 3) (ax := [8, 6, 1, 0, 0, 0, 0, 349, 350, 351, 107, 352]) (by decide +kernel))).trans (q_call8)
theorem e14_4 : mr14 S P 4 L st sh M c s = (q_isI (q_gv L 3) ∧ mr14 S P 5 L (q_gv L 3 :: st) sh M c s) := (propext (mv_R_iff (i := .iload_n 3) (len := 1) (ax := []) (by decide +kernel))).trans (q_ldI_eq (K := fun st => mr14 S P 5 L st sh M c s))
theorem e14_5 {y : Int32} {x : Int32} : mr14 S P 5 L (.int y :: .int x :: st) sh M c s = (if x = y then mr14 S P 8 L st sh M c s else mr14 S P 28 L st sh M c s) := (propext (mv_R_iff (i := .if_icmp .ne 23) (len := 3) (ax := [28]) (by decide +kernel))).trans (q_br')
theorem e14_8 : mr14 S P 8 L st sh M c s = (q_isA (q_gv L 0) ∧ mr14 S P 9 L (q_gv L 0 :: st) sh M c s) := (propext (mv_R_iff (i := .aload_n 0) (len := 1) (ax := []) (by decide +kernel))).trans (q_ldA_eq (K := fun st => mr14 S P 9 L st sh M c s))
theorem e14_9 {a : Nat} : mr14 S P 9 L (.ref a :: st) sh M c s = (a = 1000 ∧ mr14 S P 12 L (.ref 1001 :: st) sh M c s) := propext (mv_R_iff (i := .getfield 9) (len := 3) (ax := [1402, 5, 0, 1]) (by decide +kernel))
theorem e14_12 : mr14 S P 12 L st sh M c s = (mr14 S P 13 L (.int (nI 0) :: st) sh M c s) := propext (mv_R_iff (i := .iconst 0) (len := 1) (ax := []) (by decide +kernel))
theorem e14_13 : mr14 S P 13 L st sh M c s = (q_isA (q_gv L 1) ∧ mr14 S P 14 L (q_gv L 1 :: st) sh M c s) := (propext (mv_R_iff (i := .aload_n 1) (len := 1) (ax := []) (by decide +kernel))).trans (q_ldA_eq (K := fun st => mr14 S P 14 L st sh M c s))
theorem e14_14 : mr14 S P 14 L st sh M c s = (q_isI (q_gv L 2) ∧ mr14 S P 15 L (q_gv L 2 :: st) sh M c s) := (propext (mv_R_iff (i := .iload_n 2) (len := 1) (ax := []) (by decide +kernel))).trans (q_ldI_eq (K := fun st => mr14 S P 15 L st sh M c s))
theorem e14_15 : mr14 S P 15 L st sh M c s = (q_isI (q_gv L 3) ∧ mr14 S P 16 L (q_gv L 3 :: st) sh M c s) := (propext (mv_R_iff (i := .iload_n 3) (len := 1) (ax := []) (by decide +kernel))).trans (q_ldI_eq (K := fun st => mr14 S P 16 L st sh M c s))
theorem e14_16 {y : Int32} {x : Int32} : mr14 S P 16 L (.int y :: .int x :: st) sh M c s = (mr14 S P 17 L (.int (x <<< (y &&& 31)) :: st) sh M c s) := propext (mv_R_iff (i := .ishl) (len := 1) (ax := []) (by decide +kernel))
theorem e14_17 : mr14 S P 17 L st sh M c s = (q_isA (q_gv L 0) ∧ mr14 S P 18 L (q_gv L 0 :: st) sh M c s) := (propext (mv_R_iff (i := .aload_n 0) (len := 1) (ax := []) (by decide +kernel))).trans (q_ldA_eq (K := fun st => mr14 S P 18 L st sh M c s))
theorem e14_18 {a : Nat} : mr14 S P 18 L (.ref a :: st) sh M c s = (a = 1000 ∧ mr14 S P 21 L (.ref 1001 :: st) sh M c s) := propext (mv_R_iff (i := .getfield 9) (len := 3) (ax := [1402, 5, 0, 1]) (by decide +kernel))
theorem e14_21 {a : Nat} : mr14 S P 21 L (.ref a :: st) sh M c s = (a = 1001 ∧ mr14 S P 22 L (.int (nI 96) :: st) sh M c s) := propext (mv_R_iff (i := .arraylength) (len := 1) (ax := [1]) (by decide +kernel))
theorem e14_22 {n : Int32} {dp : Int32} {d : Nat} {sp : Int32} {a : Nat} : mr14 S P 22 L (.int n :: .int dp :: .ref d :: .int sp :: .ref a :: st) sh M c s = (mv_kcr sh M a sp d dp n (mr14 S P) 25 L st c s) := propext (mv_R_iff (i := .invokestatic 212) (len := 3) (ax := [14, 386, 313, 312, 116]) (by decide +kernel))
theorem e14_25 : mr14 S P 25 L st sh M c s = (mr14 S P 43 L st sh M c s) := propext (mv_R_iff (i := .goto 18) (len := 3) (ax := [43]) (by decide +kernel))
theorem e14_28 : mr14 S P 28 L st sh M c s = (q_isA (q_gv L 0) ∧ mr14 S P 29 L (q_gv L 0 :: st) sh M c s) := (propext (mv_R_iff (i := .aload_n 0) (len := 1) (ax := []) (by decide +kernel))).trans (q_ldA_eq (K := fun st => mr14 S P 29 L st sh M c s))
theorem e14_29 {a : Nat} : mr14 S P 29 L (.ref a :: st) sh M c s = (a = 1000 ∧ mr14 S P 32 L (.ref 1001 :: st) sh M c s) := propext (mv_R_iff (i := .getfield 9) (len := 3) (ax := [1402, 5, 0, 1]) (by decide +kernel))
theorem e14_32 : mr14 S P 32 L st sh M c s = (mr14 S P 33 L (.int (nI 0) :: st) sh M c s) := propext (mv_R_iff (i := .iconst 0) (len := 1) (ax := []) (by decide +kernel))
theorem e14_33 : mr14 S P 33 L st sh M c s = (q_isA (q_gv L 1) ∧ mr14 S P 34 L (q_gv L 1 :: st) sh M c s) := (propext (mv_R_iff (i := .aload_n 1) (len := 1) (ax := []) (by decide +kernel))).trans (q_ldA_eq (K := fun st => mr14 S P 34 L st sh M c s))
theorem e14_34 : mr14 S P 34 L st sh M c s = (q_isI (q_gv L 2) ∧ mr14 S P 35 L (q_gv L 2 :: st) sh M c s) := (propext (mv_R_iff (i := .iload_n 2) (len := 1) (ax := []) (by decide +kernel))).trans (q_ldI_eq (K := fun st => mr14 S P 35 L st sh M c s))
theorem e14_35 : mr14 S P 35 L st sh M c s = (q_isA (q_gv L 0) ∧ mr14 S P 36 L (q_gv L 0 :: st) sh M c s) := (propext (mv_R_iff (i := .aload_n 0) (len := 1) (ax := []) (by decide +kernel))).trans (q_ldA_eq (K := fun st => mr14 S P 36 L st sh M c s))
theorem e14_36 {a : Nat} : mr14 S P 36 L (.ref a :: st) sh M c s = (a = 1000 ∧ mr14 S P 39 L (.ref 1001 :: st) sh M c s) := propext (mv_R_iff (i := .getfield 9) (len := 3) (ax := [1402, 5, 0, 1]) (by decide +kernel))
theorem e14_39 {a : Nat} : mr14 S P 39 L (.ref a :: st) sh M c s = (a = 1001 ∧ mr14 S P 40 L (.int (nI 96) :: st) sh M c s) := propext (mv_R_iff (i := .arraylength) (len := 1) (ax := [1]) (by decide +kernel))
theorem e14_43 : mr14 S P 43 L [] sh M c s = (P none sh M) := propext (mv_R_iff (i := .return_) (len := 1) (ax := []) (by decide +kernel))
-- 15: AbstractStringBuilder.putStringAt(ILjava/lang/String;)V
def mk15 : mv_Cd := [
  (0, .aload_n 0, 1, []),
  (1, .aload_n 2, 1, []),
  (2, .invokevirtual 397, 3, [0, 13, 2, 6, 0, 0, 0, 358, 360, 1407, 105, 361]),
  (5, .aload_n 2, 1, []),
  (6, .aload_n 0, 1, []),
  (7, .getfield 15, 3, [147, 0, 6, 0]),
  (10, .iload_n 1, 1, []),
  (11, .aload_n 0, 1, []),
  (12, .getfield 22, 3, [148, 0, 6, 1]),
  (15, .invokevirtual 399, 3, [8, 14, 4, 0, 0, 0, 0, 382, 383, 384, 107, 385]),
  (18, .return_, 1, [])]
def mr15 (S : Nat → mv_Sp) (P : mv_Post) : mv_Kt := mv_R mv_DF mk15 S (0, 0) P
theorem e15_0 : mr15 S P 0 L st sh M c s = (q_isA (q_gv L 0) ∧ mr15 S P 1 L (q_gv L 0 :: st) sh M c s) := (propext (mv_R_iff (i := .aload_n 0) (len := 1) (ax := []) (by decide +kernel))).trans (q_ldA_eq (K := fun st => mr15 S P 1 L st sh M c s))
theorem e15_1 : mr15 S P 1 L st sh M c s = (q_isA (q_gv L 2) ∧ mr15 S P 2 L (q_gv L 2 :: st) sh M c s) := (propext (mv_R_iff (i := .aload_n 2) (len := 1) (ax := []) (by decide +kernel))).trans (q_ldA_eq (K := fun st => mr15 S P 2 L st sh M c s))
theorem e15_2 {v2 : Value} {v1 : Value} : mr15 S P 2 L (v2 :: v1 :: st) sh M c s = (mv_ss st ≤ 8 ∧ c ≤ 0 ∧ s ≤ 0 ∧ mv_isO sh (some v1) 6 ∧ mv_kal S 13 [v1, v2] sh M (mr15 S P) 5 L st c s) := (propext (mv_R_iff (i := .invokevirtual 397) (len := 3) (ax := [0, 13, 2, 6, 0, 0, 0, 358, 360, 1407, 105, 361]) (by decide +kernel))).trans (q_call0)
theorem e15_5 : mr15 S P 5 L st sh M c s = (q_isA (q_gv L 2) ∧ mr15 S P 6 L (q_gv L 2 :: st) sh M c s) := (propext (mv_R_iff (i := .aload_n 2) (len := 1) (ax := []) (by decide +kernel))).trans (q_ldA_eq (K := fun st => mr15 S P 6 L st sh M c s))
theorem e15_6 : mr15 S P 6 L st sh M c s = (q_isA (q_gv L 0) ∧ mr15 S P 7 L (q_gv L 0 :: st) sh M c s) := (propext (mv_R_iff (i := .aload_n 0) (len := 1) (ax := []) (by decide +kernel))).trans (q_ldA_eq (K := fun st => mr15 S P 7 L st sh M c s))
theorem e15_7 {a : Nat} : mr15 S P 7 L (.ref a :: st) sh M c s = (mv_kgf sh M a 6 0 (mr15 S P) 10 L st c s) := propext (mv_R_iff (i := .getfield 15) (len := 3) (ax := [147, 0, 6, 0]) (by decide +kernel))
theorem e15_10 : mr15 S P 10 L st sh M c s = (q_isI (q_gv L 1) ∧ mr15 S P 11 L (q_gv L 1 :: st) sh M c s) := (propext (mv_R_iff (i := .iload_n 1) (len := 1) (ax := []) (by decide +kernel))).trans (q_ldI_eq (K := fun st => mr15 S P 11 L st sh M c s))
theorem e15_11 : mr15 S P 11 L st sh M c s = (q_isA (q_gv L 0) ∧ mr15 S P 12 L (q_gv L 0 :: st) sh M c s) := (propext (mv_R_iff (i := .aload_n 0) (len := 1) (ax := []) (by decide +kernel))).trans (q_ldA_eq (K := fun st => mr15 S P 12 L st sh M c s))
theorem e15_12 {a : Nat} : mr15 S P 12 L (.ref a :: st) sh M c s = (mv_kgf sh M a 6 1 (mr15 S P) 15 L st c s) := propext (mv_R_iff (i := .getfield 22) (len := 3) (ax := [148, 0, 6, 1]) (by decide +kernel))
theorem e15_15 {v4 : Value} {v3 : Value} {v2 : Value} {v1 : Value} : mr15 S P 15 L (v4 :: v3 :: v2 :: v1 :: st) sh M c s = (mv_ss st ≤ 8 ∧ c ≤ 0 ∧ s ≤ 0 ∧ some v1 = some (.ref 1000) ∧ mv_kal S 14 [v1, v2, v3, v4] sh M (mr15 S P) 18 L st c s) := (propext (mv_R_iff (i := .invokevirtual 399) (len := 3) (ax := [8, 14, 4, 0, 0, 0, 0, 382, 383, 384, 107, 385]) (by decide +kernel))).trans (q_call8)
theorem e15_18 : mr15 S P 18 L [] sh M c s = (P none sh M) := propext (mv_R_iff (i := .return_) (len := 1) (ax := []) (by decide +kernel))
-- 16: AbstractStringBuilder.append(Ljava/lang/String;)Ljava/lang/AbstractStringBuilder; (not here: [5])
def mk16 : mv_Cd := [
  (0, .aload_n 1, 1, []),
  (1, .ifnonnull 8, 3, [9]),
  (4, .aload_n 0, 1, []),
  (9, .aload_n 1, 1, []),
  (10, .invokevirtual 32, 3, [8, 7, 1, 0, 0, 0, 0, 345, 346, 347, 107, 348]),
  (13, .istore_n 2, 1, []),
  (14, .aload_n 0, 1, []),
  (15, .aload_n 0, 1, []),
  (16, .getfield 79, 3, [150, 0, 6, 3]),
  (19, .iload_n 2, 1, []),
  (20, .iadd, 1, []),
  (21, .invokevirtual 100, 3, [0, 12, 2, 6, 1, 96, 0, 279, 281, 1404, 105, 282]),
  (24, .aload_n 0, 1, []),
  (25, .aload_n 0, 1, []),
  (26, .getfield 79, 3, [150, 0, 6, 3]),
  (29, .aload_n 1, 1, []),
  (30, .invokevirtual 208, 3, [0, 15, 3, 6, 0, 0, 0, 354, 356, 1406, 105, 357]),
  (33, .aload_n 0, 1, []),
  (34, .dup, 1, []),
  (35, .getfield 79, 3, [150, 0, 6, 3]),
  (38, .iload_n 2, 1, []),
  (39, .iadd, 1, []),
  (40, .putfield 79, 3, [150, 0, 6, 3, 0]),
  (43, .aload_n 0, 1, []),
  (44, .areturn, 1, [])]
def mr16 (S : Nat → mv_Sp) (P : mv_Post) : mv_Kt := mv_R mv_DF mk16 S (1, 96) P
theorem e16_0 : mr16 S P 0 L st sh M c s = (q_isA (q_gv L 1) ∧ mr16 S P 1 L (q_gv L 1 :: st) sh M c s) := (propext (mv_R_iff (i := .aload_n 1) (len := 1) (ax := []) (by decide +kernel))).trans (q_ldA_eq (K := fun st => mr16 S P 1 L st sh M c s))
theorem e16_1 {x : Nat} : mr16 S P 1 L (.ref x :: st) sh M c s = (mr16 S P 9 L st sh M c s) := propext (mv_R_iff (i := .ifnonnull 8) (len := 3) (ax := [9]) (by decide +kernel))
theorem e16_4 : mr16 S P 4 L st sh M c s = (q_isA (q_gv L 0) ∧ mr16 S P 5 L (q_gv L 0 :: st) sh M c s) := (propext (mv_R_iff (i := .aload_n 0) (len := 1) (ax := []) (by decide +kernel))).trans (q_ldA_eq (K := fun st => mr16 S P 5 L st sh M c s))
theorem e16_9 : mr16 S P 9 L st sh M c s = (q_isA (q_gv L 1) ∧ mr16 S P 10 L (q_gv L 1 :: st) sh M c s) := (propext (mv_R_iff (i := .aload_n 1) (len := 1) (ax := []) (by decide +kernel))).trans (q_ldA_eq (K := fun st => mr16 S P 10 L st sh M c s))
theorem e16_10 {v1 : Value} : mr16 S P 10 L (v1 :: st) sh M c s = (mv_ss st ≤ 8 ∧ c ≤ 1 ∧ s ≤ 96 ∧ some v1 = some (.ref 1000) ∧ mv_kal S 7 [v1] sh M (mr16 S P) 13 L st c s) := (propext (mv_R_iff (i := .invokevirtual 32) (len := 3) (ax := [8, 7, 1, 0, 0, 0, 0, 345, 346, 347, 107, 348]) (by decide +kernel))).trans (q_call8)
theorem e16_13 {x : Int32} : mr16 S P 13 L (.int x :: st) sh M c s = (q_hs L 2 ∧ mr16 S P 14 (L.set 2 (some (.int x))) st sh M c s) := (propext (mv_R_iff (i := .istore_n 2) (len := 1) (ax := []) (by decide +kernel))).trans (q_st_eq (K := fun L => mr16 S P 14 L st sh M c s))
theorem e16_14 : mr16 S P 14 L st sh M c s = (q_isA (q_gv L 0) ∧ mr16 S P 15 L (q_gv L 0 :: st) sh M c s) := (propext (mv_R_iff (i := .aload_n 0) (len := 1) (ax := []) (by decide +kernel))).trans (q_ldA_eq (K := fun st => mr16 S P 15 L st sh M c s))
theorem e16_15 : mr16 S P 15 L st sh M c s = (q_isA (q_gv L 0) ∧ mr16 S P 16 L (q_gv L 0 :: st) sh M c s) := (propext (mv_R_iff (i := .aload_n 0) (len := 1) (ax := []) (by decide +kernel))).trans (q_ldA_eq (K := fun st => mr16 S P 16 L st sh M c s))
theorem e16_16 {a : Nat} : mr16 S P 16 L (.ref a :: st) sh M c s = (mv_kgf sh M a 6 3 (mr16 S P) 19 L st c s) := propext (mv_R_iff (i := .getfield 79) (len := 3) (ax := [150, 0, 6, 3]) (by decide +kernel))
theorem e16_19 : mr16 S P 19 L st sh M c s = (q_isI (q_gv L 2) ∧ mr16 S P 20 L (q_gv L 2 :: st) sh M c s) := (propext (mv_R_iff (i := .iload_n 2) (len := 1) (ax := []) (by decide +kernel))).trans (q_ldI_eq (K := fun st => mr16 S P 20 L st sh M c s))
theorem e16_20 {y : Int32} {x : Int32} : mr16 S P 20 L (.int y :: .int x :: st) sh M c s = (mr16 S P 21 L (.int (x + y) :: st) sh M c s) := propext (mv_R_iff (i := .iadd) (len := 1) (ax := []) (by decide +kernel))
theorem e16_21 {v2 : Value} {v1 : Value} : mr16 S P 21 L (v2 :: v1 :: st) sh M c s = (mv_ss st ≤ 8 ∧ c + 1 ≤ 1 ∧ s + 96 ≤ 96 ∧ mv_isO sh (some v1) 6 ∧ mv_kal S 12 [v1, v2] sh M (mr16 S P) 24 L st (c + 1) (s + 96)) := (propext (mv_R_iff (i := .invokevirtual 100) (len := 3) (ax := [0, 12, 2, 6, 1, 96, 0, 279, 281, 1404, 105, 282]) (by decide +kernel))).trans (q_call0)
theorem e16_24 : mr16 S P 24 L st sh M c s = (q_isA (q_gv L 0) ∧ mr16 S P 25 L (q_gv L 0 :: st) sh M c s) := (propext (mv_R_iff (i := .aload_n 0) (len := 1) (ax := []) (by decide +kernel))).trans (q_ldA_eq (K := fun st => mr16 S P 25 L st sh M c s))
theorem e16_25 : mr16 S P 25 L st sh M c s = (q_isA (q_gv L 0) ∧ mr16 S P 26 L (q_gv L 0 :: st) sh M c s) := (propext (mv_R_iff (i := .aload_n 0) (len := 1) (ax := []) (by decide +kernel))).trans (q_ldA_eq (K := fun st => mr16 S P 26 L st sh M c s))
theorem e16_26 {a : Nat} : mr16 S P 26 L (.ref a :: st) sh M c s = (mv_kgf sh M a 6 3 (mr16 S P) 29 L st c s) := propext (mv_R_iff (i := .getfield 79) (len := 3) (ax := [150, 0, 6, 3]) (by decide +kernel))
theorem e16_29 : mr16 S P 29 L st sh M c s = (q_isA (q_gv L 1) ∧ mr16 S P 30 L (q_gv L 1 :: st) sh M c s) := (propext (mv_R_iff (i := .aload_n 1) (len := 1) (ax := []) (by decide +kernel))).trans (q_ldA_eq (K := fun st => mr16 S P 30 L st sh M c s))
theorem e16_30 {v3 : Value} {v2 : Value} {v1 : Value} : mr16 S P 30 L (v3 :: v2 :: v1 :: st) sh M c s = (mv_ss st ≤ 8 ∧ c ≤ 1 ∧ s ≤ 96 ∧ mv_isO sh (some v1) 6 ∧ mv_kal S 15 [v1, v2, v3] sh M (mr16 S P) 33 L st c s) := (propext (mv_R_iff (i := .invokevirtual 208) (len := 3) (ax := [0, 15, 3, 6, 0, 0, 0, 354, 356, 1406, 105, 357]) (by decide +kernel))).trans (q_call0)
theorem e16_33 : mr16 S P 33 L st sh M c s = (q_isA (q_gv L 0) ∧ mr16 S P 34 L (q_gv L 0 :: st) sh M c s) := (propext (mv_R_iff (i := .aload_n 0) (len := 1) (ax := []) (by decide +kernel))).trans (q_ldA_eq (K := fun st => mr16 S P 34 L st sh M c s))
theorem e16_34 {x : Int32} : mr16 S P 34 L (.int x :: st) sh M c s = (mr16 S P 35 L (.int x :: .int x :: st) sh M c s) := propext (mv_R_iff (i := .dup) (len := 1) (ax := []) (by decide +kernel))
theorem e16_34r {x : Nat} : mr16 S P 34 L (.ref x :: st) sh M c s = (mr16 S P 35 L (.ref x :: .ref x :: st) sh M c s) := propext (mv_R_iff (i := .dup) (len := 1) (ax := []) (by decide +kernel))
theorem e16_35 {a : Nat} : mr16 S P 35 L (.ref a :: st) sh M c s = (mv_kgf sh M a 6 3 (mr16 S P) 38 L st c s) := propext (mv_R_iff (i := .getfield 79) (len := 3) (ax := [150, 0, 6, 3]) (by decide +kernel))
theorem e16_38 : mr16 S P 38 L st sh M c s = (q_isI (q_gv L 2) ∧ mr16 S P 39 L (q_gv L 2 :: st) sh M c s) := (propext (mv_R_iff (i := .iload_n 2) (len := 1) (ax := []) (by decide +kernel))).trans (q_ldI_eq (K := fun st => mr16 S P 39 L st sh M c s))
theorem e16_39 {y : Int32} {x : Int32} : mr16 S P 39 L (.int y :: .int x :: st) sh M c s = (mr16 S P 40 L (.int (x + y) :: st) sh M c s) := propext (mv_R_iff (i := .iadd) (len := 1) (ax := []) (by decide +kernel))
theorem e16_40 {x : Int32} {a : Nat} : mr16 S P 40 L (.int x :: .ref a :: st) sh M c s = (True ∧ mv_kpf sh M a 6 3 x (mr16 S P) 43 L st c s) := propext (mv_R_iff (i := .putfield 79) (len := 3) (ax := [150, 0, 6, 3, 0]) (by decide +kernel))
theorem e16_43 : mr16 S P 43 L st sh M c s = (q_isA (q_gv L 0) ∧ mr16 S P 44 L (q_gv L 0 :: st) sh M c s) := (propext (mv_R_iff (i := .aload_n 0) (len := 1) (ax := []) (by decide +kernel))).trans (q_ldA_eq (K := fun st => mr16 S P 44 L st sh M c s))
theorem e16_44 {x : Nat} : mr16 S P 44 L [.ref x] sh M c s = (P (some (.ref x)) sh M) := propext (mv_R_iff (i := .areturn) (len := 1) (ax := []) (by decide +kernel))
-- 17: StringBuilder.append(Ljava/lang/String;)Ljava/lang/StringBuilder;
def mk17 : mv_Cd := [
  (0, .aload_n 0, 1, []),
  (1, .aload_n 1, 1, []),
  (2, .invokespecial 29, 3, [2, 16, 2, 6, 1, 96, 0, 272, 1391, 159, 273, 105, 274]),
  (5, .pop, 1, []),
  (6, .aload_n 0, 1, []),
  (7, .areturn, 1, [])]
def mr17 (S : Nat → mv_Sp) (P : mv_Post) : mv_Kt := mv_R mv_DF mk17 S (1, 96) P
theorem e17_0 : mr17 S P 0 L st sh M c s = (q_isA (q_gv L 0) ∧ mr17 S P 1 L (q_gv L 0 :: st) sh M c s) := (propext (mv_R_iff (i := .aload_n 0) (len := 1) (ax := []) (by decide +kernel))).trans (q_ldA_eq (K := fun st => mr17 S P 1 L st sh M c s))
theorem e17_1 : mr17 S P 1 L st sh M c s = (q_isA (q_gv L 1) ∧ mr17 S P 2 L (q_gv L 1 :: st) sh M c s) := (propext (mv_R_iff (i := .aload_n 1) (len := 1) (ax := []) (by decide +kernel))).trans (q_ldA_eq (K := fun st => mr17 S P 2 L st sh M c s))
theorem e17_2 {v2 : Value} {v1 : Value} : mr17 S P 2 L (v2 :: v1 :: st) sh M c s = (mv_ss st ≤ 8 ∧ c + 1 ≤ 1 ∧ s + 96 ≤ 96 ∧ mv_isO sh (some v1) 6 ∧ mv_kal S 16 [v1, v2] sh M (mr17 S P) 5 L st (c + 1) (s + 96)) := (propext (mv_R_iff (i := .invokespecial 29) (len := 3) (ax := [2, 16, 2, 6, 1, 96, 0, 272, 1391, 159, 273, 105, 274]) (by decide +kernel))).trans (q_call2)
theorem e17_5 {x : Int32} : mr17 S P 5 L (.int x :: st) sh M c s = (mr17 S P 6 L st sh M c s) := propext (mv_R_iff (i := .pop) (len := 1) (ax := []) (by decide +kernel))
theorem e17_5r {x : Nat} : mr17 S P 5 L (.ref x :: st) sh M c s = (mr17 S P 6 L st sh M c s) := propext (mv_R_iff (i := .pop) (len := 1) (ax := []) (by decide +kernel))
theorem e17_6 : mr17 S P 6 L st sh M c s = (q_isA (q_gv L 0) ∧ mr17 S P 7 L (q_gv L 0 :: st) sh M c s) := (propext (mv_R_iff (i := .aload_n 0) (len := 1) (ax := []) (by decide +kernel))).trans (q_ldA_eq (K := fun st => mr17 S P 7 L st sh M c s))
theorem e17_7 {x : Nat} : mr17 S P 7 L [.ref x] sh M c s = (P (some (.ref x)) sh M) := propext (mv_R_iff (i := .areturn) (len := 1) (ax := []) (by decide +kernel))
-- 50: TurnedTablets.<init>()V
def mk50 : mv_Cd := [
  (0, .aload_n 0, 1, []),
  (1, .invokespecial 3, 3, [13, 126, 127, 128]),
  (4, .aload_n 0, 1, []),
  (5, .new 9, 3, [129, 130, 106, 6, 4]),
  (8, .dup, 1, []),
  (9, .invokespecial 11, 3, [5, 1, 1, 6, 1, 16, 0, 131, 132, 106, 133]),
  (12, .putfield 12, 3, [523, 2, 4, 0, 3]),
  (15, .aload_n 0, 1, []),
  (16, .new 16, 3, [161, 162, 109, 1, 10]),
  (19, .dup, 1, []),
  (20, .invokespecial 18, 3, [6, 2, 1, 1, 6, 74, 163, 164, 109, 165]),
  (23, .putfield 19, 3, [524, 2, 4, 1, 3]),
  (26, .aload_n 0, 1, []),
  (27, .new 23, 3, [211, 212, 110, 2, 3]),
  (30, .dup, 1, []),
  (31, .aload_n 0, 1, []),
  (32, .getfield 12, 3, [523, 0, 4, 0]),
  (35, .invokespecial 25, 3, [6, 3, 2, 2, 7, 84, 213, 214, 110, 215]),
  (38, .putfield 28, 3, [525, 2, 4, 2, 3]),
  (41, .aload_n 0, 1, []),
  (42, .new 32, 3, [230, 231, 111, 0, 3]),
  (45, .dup, 1, []),
  (46, .invokespecial 34, 3, [6, 4, 1, 0, 2, 798, 232, 233, 111, 234]),
  (49, .putfield 35, 3, [526, 2, 4, 3, 3]),
  (52, .aload_n 0, 1, []),
  (53, .new 32, 3, [230, 231, 111, 0, 3]),
  (56, .dup, 1, []),
  (57, .invokespecial 34, 3, [6, 4, 1, 0, 2, 798, 232, 233, 111, 234]),
  (60, .putfield 39, 3, [527, 2, 4, 4, 3]),
  (63, .aload_n 0, 1, []),
  (64, .bipush 8, 2, []),
  (66, .anewarray 32, 3, [230]),
  (69, .putfield 42, 3, [528, 2, 4, 5, 3]),
  (72, .iconst 0, 1, []),
  (73, .istore_n 1, 1, []),
  (74, .iload_n 1, 1, []),
  (75, .bipush 8, 2, []),
  (77, .if_icmp .ge 22, 3, [99]),
  (80, .aload_n 0, 1, []),
  (81, .getfield 42, 3, [528, 0, 4, 5]),
  (84, .iload_n 1, 1, []),
  (85, .new 32, 3, [230, 231, 111, 0, 3]),
  (88, .dup, 1, []),
  (89, .invokespecial 34, 3, [6, 4, 1, 0, 2, 798, 232, 233, 111, 234]),
  (92, .aastore, 1, []),
  (93, .iinc 1 1, 3, []),
  (96, .goto (-22), 3, [74]),
  (99, .aload_n 0, 1, []),
  (100, .iconst 2, 1, []),
  (101, .anewarray 32, 3, [230]),
  (104, .putfield 46, 3, [531, 2, 4, 8, 3]),
  (107, .iconst 0, 1, []),
  (108, .istore_n 1, 1, []),
  (109, .iload_n 1, 1, []),
  (110, .iconst 2, 1, []),
  (111, .if_icmp .ge 22, 3, [133]),
  (114, .aload_n 0, 1, []),
  (115, .getfield 46, 3, [531, 0, 4, 8]),
  (118, .iload_n 1, 1, []),
  (119, .new 32, 3, [230, 231, 111, 0, 3]),
  (122, .dup, 1, []),
  (123, .invokespecial 34, 3, [6, 4, 1, 0, 2, 798, 232, 233, 111, 234]),
  (126, .aastore, 1, []),
  (127, .iinc 1 1, 3, []),
  (130, .goto (-21), 3, [109]),
  (133, .aload_n 0, 1, []),
  (134, .bipush 6, 2, []),
  (136, .newarray .int, 2, [210, 0]),
  (138, .putfield 49, 3, [533, 2, 4, 10, 3]),
  (141, .aload_n 0, 1, []),
  (142, .new 53, 3, [248, 249, 112, 3, 4]),
  (145, .dup, 1, []),
  (146, .invokespecial 55, 3, [6, 5, 1, 3, 3, 8204, 250, 251, 112, 252]),
  (149, .putfield 56, 3, [535, 2, 4, 12, 3]),
  (152, .aload_n 0, 1, []),
  (153, .getfield 12, 3, [523, 0, 4, 0]),
  (156, .ldc 60, 2, [0, 0, 1]),
  (158, .invokevirtual 62, 3, [0, 17, 2, 6, 1, 96, 0, 268, 269, 270, 106, 271]),
  (161, .pop, 1, []),
  (162, .aload_n 0, 1, []),
  (163, .invokevirtual 66, 3, [0, 46, 1, 4, 0, 0, 0, 388, 389, 390, 104, 391]),
  (166, .pop, 1, []),
  (167, .aload_n 0, 1, []),
  (168, .getfield 12, 3, [523, 0, 4, 0]),
  (171, .iconst 0, 1, []),
  (172, .invokevirtual 70, 3, [0, 49, 2, 6, 1, 96, 0, 503, 504, 505, 106, 506]),
  (175, .return_, 1, [])]
def mr50 (S : Nat → mv_Sp) (P : mv_Post) : mv_Kt := mv_R mv_DF mk50 S (62, 18219) P
theorem e50_0 : mr50 S P 0 L st sh M c s = (q_isA (q_gv L 0) ∧ mr50 S P 1 L (q_gv L 0 :: st) sh M c s) := (propext (mv_R_iff (i := .aload_n 0) (len := 1) (ax := []) (by decide +kernel))).trans (q_ldA_eq (K := fun st => mr50 S P 1 L st sh M c s))
theorem e50_1 {x : Nat} : mr50 S P 1 L (.ref x :: st) sh M c s = (mv_ss st + 1 ≤ 8 ∧ mr50 S P 4 L st sh M c s) := propext (mv_R_iff (i := .invokespecial 3) (len := 3) (ax := [13, 126, 127, 128]) (by decide +kernel))
theorem e50_4 : mr50 S P 4 L st sh M c s = (q_isA (q_gv L 0) ∧ mr50 S P 5 L (q_gv L 0 :: st) sh M c s) := (propext (mv_R_iff (i := .aload_n 0) (len := 1) (ax := []) (by decide +kernel))).trans (q_ldA_eq (K := fun st => mr50 S P 5 L st sh M c s))
theorem e50_5 : mr50 S P 5 L st sh M c s = ((sh.length < 900 ∧ c + 1 ≤ 62 ∧ s + 4 ≤ 18219) ∧ mr50 S P 8 L (.ref sh.length :: st) (sh ++ [.inr (.inl (6, [some .null, none, none, none]))]) (mv_wr M sh.length (fun _ => 0)) (c + 1) (s + 4)) := propext (mv_R_iff (i := .new 9) (len := 3) (ax := [129, 130, 106, 6, 4]) (by decide +kernel))
theorem e50_8 {x : Int32} : mr50 S P 8 L (.int x :: st) sh M c s = (mr50 S P 9 L (.int x :: .int x :: st) sh M c s) := propext (mv_R_iff (i := .dup) (len := 1) (ax := []) (by decide +kernel))
theorem e50_8r {x : Nat} : mr50 S P 8 L (.ref x :: st) sh M c s = (mr50 S P 9 L (.ref x :: .ref x :: st) sh M c s) := propext (mv_R_iff (i := .dup) (len := 1) (ax := []) (by decide +kernel))
theorem e50_9 {v1 : Value} : mr50 S P 9 L (v1 :: st) sh M c s = (mv_ss st ≤ 8 ∧ c + 1 ≤ 62 ∧ s + 16 ≤ 18219 ∧ mv_isO sh (some v1) 6 ∧ mv_kal S 1 [v1] sh M (mr50 S P) 12 L st (c + 1) (s + 16)) := (propext (mv_R_iff (i := .invokespecial 11) (len := 3) (ax := [5, 1, 1, 6, 1, 16, 0, 131, 132, 106, 133]) (by decide +kernel))).trans (q_call5)
theorem e50_12 {x : Nat} {a : Nat} : mr50 S P 12 L (.ref x :: .ref a :: st) sh M c s = (mv_kpr sh M a 4 0 x (mr50 S P) 15 L st c s) := (propext (mv_R_iff (i := .putfield 12) (len := 3) (ax := [523, 2, 4, 0, 3]) (by decide +kernel))).trans (q_tt)
theorem e50_15 : mr50 S P 15 L st sh M c s = (q_isA (q_gv L 0) ∧ mr50 S P 16 L (q_gv L 0 :: st) sh M c s) := (propext (mv_R_iff (i := .aload_n 0) (len := 1) (ax := []) (by decide +kernel))).trans (q_ldA_eq (K := fun st => mr50 S P 16 L st sh M c s))
theorem e50_16 : mr50 S P 16 L st sh M c s = ((sh.length < 900 ∧ c + 1 ≤ 62 ∧ s + 10 ≤ 18219) ∧ mr50 S P 19 L (.ref sh.length :: st) (sh ++ [.inr (.inl (1, [none, none, none, none, some .null, some .null, some .null, some .null, some .null, some .null]))]) (mv_wr M sh.length (fun _ => 0)) (c + 1) (s + 10)) := propext (mv_R_iff (i := .new 16) (len := 3) (ax := [161, 162, 109, 1, 10]) (by decide +kernel))
theorem e50_19 {x : Int32} : mr50 S P 19 L (.int x :: st) sh M c s = (mr50 S P 20 L (.int x :: .int x :: st) sh M c s) := propext (mv_R_iff (i := .dup) (len := 1) (ax := []) (by decide +kernel))
theorem e50_19r {x : Nat} : mr50 S P 19 L (.ref x :: st) sh M c s = (mr50 S P 20 L (.ref x :: .ref x :: st) sh M c s) := propext (mv_R_iff (i := .dup) (len := 1) (ax := []) (by decide +kernel))
theorem e50_20 {v1 : Value} : mr50 S P 20 L (v1 :: st) sh M c s = (mv_ss st ≤ 8 ∧ c + 6 ≤ 62 ∧ s + 74 ≤ 18219 ∧ mv_isO sh (some v1) 1 ∧ mv_kal S 2 [v1] sh M (mr50 S P) 23 L st (c + 6) (s + 74)) := (propext (mv_R_iff (i := .invokespecial 18) (len := 3) (ax := [6, 2, 1, 1, 6, 74, 163, 164, 109, 165]) (by decide +kernel))).trans (q_call6)
theorem e50_23 {x : Nat} {a : Nat} : mr50 S P 23 L (.ref x :: .ref a :: st) sh M c s = (mv_kpr sh M a 4 1 x (mr50 S P) 26 L st c s) := (propext (mv_R_iff (i := .putfield 19) (len := 3) (ax := [524, 2, 4, 1, 3]) (by decide +kernel))).trans (q_tt)
theorem e50_26 : mr50 S P 26 L st sh M c s = (q_isA (q_gv L 0) ∧ mr50 S P 27 L (q_gv L 0 :: st) sh M c s) := (propext (mv_R_iff (i := .aload_n 0) (len := 1) (ax := []) (by decide +kernel))).trans (q_ldA_eq (K := fun st => mr50 S P 27 L st sh M c s))
theorem e50_27 : mr50 S P 27 L st sh M c s = ((sh.length < 900 ∧ c + 1 ≤ 62 ∧ s + 3 ≤ 18219) ∧ mr50 S P 30 L (.ref sh.length :: st) (sh ++ [.inr (.inl (2, [some .null, some .null, none]))]) (mv_wr M sh.length (fun _ => 0)) (c + 1) (s + 3)) := propext (mv_R_iff (i := .new 23) (len := 3) (ax := [211, 212, 110, 2, 3]) (by decide +kernel))
theorem e50_30 {x : Int32} : mr50 S P 30 L (.int x :: st) sh M c s = (mr50 S P 31 L (.int x :: .int x :: st) sh M c s) := propext (mv_R_iff (i := .dup) (len := 1) (ax := []) (by decide +kernel))
theorem e50_30r {x : Nat} : mr50 S P 30 L (.ref x :: st) sh M c s = (mr50 S P 31 L (.ref x :: .ref x :: st) sh M c s) := propext (mv_R_iff (i := .dup) (len := 1) (ax := []) (by decide +kernel))
theorem e50_31 : mr50 S P 31 L st sh M c s = (q_isA (q_gv L 0) ∧ mr50 S P 32 L (q_gv L 0 :: st) sh M c s) := (propext (mv_R_iff (i := .aload_n 0) (len := 1) (ax := []) (by decide +kernel))).trans (q_ldA_eq (K := fun st => mr50 S P 32 L st sh M c s))
theorem e50_32 {a : Nat} : mr50 S P 32 L (.ref a :: st) sh M c s = (mv_kgf sh M a 4 0 (mr50 S P) 35 L st c s) := propext (mv_R_iff (i := .getfield 12) (len := 3) (ax := [523, 0, 4, 0]) (by decide +kernel))
theorem e50_35 {v2 : Value} {v1 : Value} : mr50 S P 35 L (v2 :: v1 :: st) sh M c s = (mv_ss st ≤ 8 ∧ c + 7 ≤ 62 ∧ s + 84 ≤ 18219 ∧ mv_isO sh (some v1) 2 ∧ mv_kal S 3 [v1, v2] sh M (mr50 S P) 38 L st (c + 7) (s + 84)) := (propext (mv_R_iff (i := .invokespecial 25) (len := 3) (ax := [6, 3, 2, 2, 7, 84, 213, 214, 110, 215]) (by decide +kernel))).trans (q_call6)
theorem e50_38 {x : Nat} {a : Nat} : mr50 S P 38 L (.ref x :: .ref a :: st) sh M c s = (mv_kpr sh M a 4 2 x (mr50 S P) 41 L st c s) := (propext (mv_R_iff (i := .putfield 28) (len := 3) (ax := [525, 2, 4, 2, 3]) (by decide +kernel))).trans (q_tt)
theorem e50_41 : mr50 S P 41 L st sh M c s = (q_isA (q_gv L 0) ∧ mr50 S P 42 L (q_gv L 0 :: st) sh M c s) := (propext (mv_R_iff (i := .aload_n 0) (len := 1) (ax := []) (by decide +kernel))).trans (q_ldA_eq (K := fun st => mr50 S P 42 L st sh M c s))
theorem e50_42 : mr50 S P 42 L st sh M c s = ((sh.length < 900 ∧ c + 1 ≤ 62 ∧ s + 3 ≤ 18219) ∧ mr50 S P 45 L (.ref sh.length :: st) (sh ++ [.inr (.inl (0, [some .null, some .null, none]))]) (mv_wr M sh.length (fun _ => 0)) (c + 1) (s + 3)) := propext (mv_R_iff (i := .new 32) (len := 3) (ax := [230, 231, 111, 0, 3]) (by decide +kernel))
theorem e50_45 {x : Int32} : mr50 S P 45 L (.int x :: st) sh M c s = (mr50 S P 46 L (.int x :: .int x :: st) sh M c s) := propext (mv_R_iff (i := .dup) (len := 1) (ax := []) (by decide +kernel))
theorem e50_45r {x : Nat} : mr50 S P 45 L (.ref x :: st) sh M c s = (mr50 S P 46 L (.ref x :: .ref x :: st) sh M c s) := propext (mv_R_iff (i := .dup) (len := 1) (ax := []) (by decide +kernel))
theorem e50_46 {v1 : Value} : mr50 S P 46 L (v1 :: st) sh M c s = (mv_ss st ≤ 8 ∧ c + 2 ≤ 62 ∧ s + 798 ≤ 18219 ∧ mv_isO sh (some v1) 0 ∧ mv_kal S 4 [v1] sh M (mr50 S P) 49 L st (c + 2) (s + 798)) := (propext (mv_R_iff (i := .invokespecial 34) (len := 3) (ax := [6, 4, 1, 0, 2, 798, 232, 233, 111, 234]) (by decide +kernel))).trans (q_call6)
theorem e50_49 {x : Nat} {a : Nat} : mr50 S P 49 L (.ref x :: .ref a :: st) sh M c s = (mv_kpr sh M a 4 3 x (mr50 S P) 52 L st c s) := (propext (mv_R_iff (i := .putfield 35) (len := 3) (ax := [526, 2, 4, 3, 3]) (by decide +kernel))).trans (q_tt)
theorem e50_52 : mr50 S P 52 L st sh M c s = (q_isA (q_gv L 0) ∧ mr50 S P 53 L (q_gv L 0 :: st) sh M c s) := (propext (mv_R_iff (i := .aload_n 0) (len := 1) (ax := []) (by decide +kernel))).trans (q_ldA_eq (K := fun st => mr50 S P 53 L st sh M c s))
theorem e50_53 : mr50 S P 53 L st sh M c s = ((sh.length < 900 ∧ c + 1 ≤ 62 ∧ s + 3 ≤ 18219) ∧ mr50 S P 56 L (.ref sh.length :: st) (sh ++ [.inr (.inl (0, [some .null, some .null, none]))]) (mv_wr M sh.length (fun _ => 0)) (c + 1) (s + 3)) := propext (mv_R_iff (i := .new 32) (len := 3) (ax := [230, 231, 111, 0, 3]) (by decide +kernel))
theorem e50_56 {x : Int32} : mr50 S P 56 L (.int x :: st) sh M c s = (mr50 S P 57 L (.int x :: .int x :: st) sh M c s) := propext (mv_R_iff (i := .dup) (len := 1) (ax := []) (by decide +kernel))
theorem e50_56r {x : Nat} : mr50 S P 56 L (.ref x :: st) sh M c s = (mr50 S P 57 L (.ref x :: .ref x :: st) sh M c s) := propext (mv_R_iff (i := .dup) (len := 1) (ax := []) (by decide +kernel))
theorem e50_57 {v1 : Value} : mr50 S P 57 L (v1 :: st) sh M c s = (mv_ss st ≤ 8 ∧ c + 2 ≤ 62 ∧ s + 798 ≤ 18219 ∧ mv_isO sh (some v1) 0 ∧ mv_kal S 4 [v1] sh M (mr50 S P) 60 L st (c + 2) (s + 798)) := (propext (mv_R_iff (i := .invokespecial 34) (len := 3) (ax := [6, 4, 1, 0, 2, 798, 232, 233, 111, 234]) (by decide +kernel))).trans (q_call6)
theorem e50_60 {x : Nat} {a : Nat} : mr50 S P 60 L (.ref x :: .ref a :: st) sh M c s = (mv_kpr sh M a 4 4 x (mr50 S P) 63 L st c s) := (propext (mv_R_iff (i := .putfield 39) (len := 3) (ax := [527, 2, 4, 4, 3]) (by decide +kernel))).trans (q_tt)
theorem e50_63 : mr50 S P 63 L st sh M c s = (q_isA (q_gv L 0) ∧ mr50 S P 64 L (q_gv L 0 :: st) sh M c s) := (propext (mv_R_iff (i := .aload_n 0) (len := 1) (ax := []) (by decide +kernel))).trans (q_ldA_eq (K := fun st => mr50 S P 64 L st sh M c s))
theorem e50_64 : mr50 S P 64 L st sh M c s = (mr50 S P 66 L (.int (nI 8) :: st) sh M c s) := propext (mv_R_iff (i := .bipush 8) (len := 2) (ax := []) (by decide +kernel))
theorem e50_66 {n : Int32} : mr50 S P 66 L (.int n :: st) sh M c s = ((sh.length < 900 ∧ ¬ n < 0 ∧ n.toNatClampNeg ≤ 10000 ∧ c + 1 ≤ 62 ∧ s + n.toNatClampNeg ≤ 18219) ∧ mr50 S P 69 L (.ref sh.length :: st) (sh ++ [.inr (.inr (3, n.toNatClampNeg, fun _ => none))]) (mv_wr M sh.length (fun _ => 0)) (c + 1) (s + n.toNatClampNeg)) := propext (mv_R_iff (i := .anewarray 32) (len := 3) (ax := [230]) (by decide +kernel))
theorem e50_69 {x : Nat} {a : Nat} : mr50 S P 69 L (.ref x :: .ref a :: st) sh M c s = (mv_kpr sh M a 4 5 x (mr50 S P) 72 L st c s) := (propext (mv_R_iff (i := .putfield 42) (len := 3) (ax := [528, 2, 4, 5, 3]) (by decide +kernel))).trans (q_tt)
theorem e50_72 : mr50 S P 72 L st sh M c s = (mr50 S P 73 L (.int (nI 0) :: st) sh M c s) := propext (mv_R_iff (i := .iconst 0) (len := 1) (ax := []) (by decide +kernel))
theorem e50_73 {x : Int32} : mr50 S P 73 L (.int x :: st) sh M c s = (q_hs L 1 ∧ mr50 S P 74 (L.set 1 (some (.int x))) st sh M c s) := (propext (mv_R_iff (i := .istore_n 1) (len := 1) (ax := []) (by decide +kernel))).trans (q_st_eq (K := fun L => mr50 S P 74 L st sh M c s))
theorem e50_74 : mr50 S P 74 L st sh M c s = (q_isI (q_gv L 1) ∧ mr50 S P 75 L (q_gv L 1 :: st) sh M c s) := (propext (mv_R_iff (i := .iload_n 1) (len := 1) (ax := []) (by decide +kernel))).trans (q_ldI_eq (K := fun st => mr50 S P 75 L st sh M c s))
theorem e50_75 : mr50 S P 75 L st sh M c s = (mr50 S P 77 L (.int (nI 8) :: st) sh M c s) := propext (mv_R_iff (i := .bipush 8) (len := 2) (ax := []) (by decide +kernel))
theorem e50_77 {y : Int32} {x : Int32} : mr50 S P 77 L (.int y :: .int x :: st) sh M c s = (if y ≤ x then mr50 S P 99 L st sh M c s else mr50 S P 80 L st sh M c s) := (propext (mv_R_iff (i := .if_icmp .ge 22) (len := 3) (ax := [99]) (by decide +kernel))).trans (q_br)
theorem e50_80 : mr50 S P 80 L st sh M c s = (q_isA (q_gv L 0) ∧ mr50 S P 81 L (q_gv L 0 :: st) sh M c s) := (propext (mv_R_iff (i := .aload_n 0) (len := 1) (ax := []) (by decide +kernel))).trans (q_ldA_eq (K := fun st => mr50 S P 81 L st sh M c s))
theorem e50_81 {a : Nat} : mr50 S P 81 L (.ref a :: st) sh M c s = (mv_kgf sh M a 4 5 (mr50 S P) 84 L st c s) := propext (mv_R_iff (i := .getfield 42) (len := 3) (ax := [528, 0, 4, 5]) (by decide +kernel))
theorem e50_84 : mr50 S P 84 L st sh M c s = (q_isI (q_gv L 1) ∧ mr50 S P 85 L (q_gv L 1 :: st) sh M c s) := (propext (mv_R_iff (i := .iload_n 1) (len := 1) (ax := []) (by decide +kernel))).trans (q_ldI_eq (K := fun st => mr50 S P 85 L st sh M c s))
theorem e50_85 : mr50 S P 85 L st sh M c s = ((sh.length < 900 ∧ c + 1 ≤ 62 ∧ s + 3 ≤ 18219) ∧ mr50 S P 88 L (.ref sh.length :: st) (sh ++ [.inr (.inl (0, [some .null, some .null, none]))]) (mv_wr M sh.length (fun _ => 0)) (c + 1) (s + 3)) := propext (mv_R_iff (i := .new 32) (len := 3) (ax := [230, 231, 111, 0, 3]) (by decide +kernel))
theorem e50_88 {x : Int32} : mr50 S P 88 L (.int x :: st) sh M c s = (mr50 S P 89 L (.int x :: .int x :: st) sh M c s) := propext (mv_R_iff (i := .dup) (len := 1) (ax := []) (by decide +kernel))
theorem e50_88r {x : Nat} : mr50 S P 88 L (.ref x :: st) sh M c s = (mr50 S P 89 L (.ref x :: .ref x :: st) sh M c s) := propext (mv_R_iff (i := .dup) (len := 1) (ax := []) (by decide +kernel))
theorem e50_89 {v1 : Value} : mr50 S P 89 L (v1 :: st) sh M c s = (mv_ss st ≤ 8 ∧ c + 2 ≤ 62 ∧ s + 798 ≤ 18219 ∧ mv_isO sh (some v1) 0 ∧ mv_kal S 4 [v1] sh M (mr50 S P) 92 L st (c + 2) (s + 798)) := (propext (mv_R_iff (i := .invokespecial 34) (len := 3) (ax := [6, 4, 1, 0, 2, 798, 232, 233, 111, 234]) (by decide +kernel))).trans (q_call6)
theorem e50_92 {x : Nat} {i : Int32} {a : Nat} : mr50 S P 92 L (.ref x :: .int i :: .ref a :: st) sh M c s = (mv_kas sh M a i x (mr50 S P) 93 L st c s) := propext (mv_R_iff (i := .aastore) (len := 1) (ax := []) (by decide +kernel))
theorem e50_93 : mr50 S P 93 L st sh M c s = ((q_isI (q_gv L 1) ∧ q_hs L 1) ∧ mr50 S P 96 (L.set 1 (some (q_inc (q_gv L 1) (nI 1)))) st sh M c s) := (propext (mv_R_iff (i := .iinc 1 1) (len := 3) (ax := []) (by decide +kernel))).trans (q_inc_eq (K := fun L => mr50 S P 96 L st sh M c s))
theorem e50_96 : mr50 S P 96 L st sh M c s = (mr50 S P 74 L st sh M c s) := propext (mv_R_iff (i := .goto (-22)) (len := 3) (ax := [74]) (by decide +kernel))
theorem e50_99 : mr50 S P 99 L st sh M c s = (q_isA (q_gv L 0) ∧ mr50 S P 100 L (q_gv L 0 :: st) sh M c s) := (propext (mv_R_iff (i := .aload_n 0) (len := 1) (ax := []) (by decide +kernel))).trans (q_ldA_eq (K := fun st => mr50 S P 100 L st sh M c s))
theorem e50_100 : mr50 S P 100 L st sh M c s = (mr50 S P 101 L (.int (nI 2) :: st) sh M c s) := propext (mv_R_iff (i := .iconst 2) (len := 1) (ax := []) (by decide +kernel))
theorem e50_101 {n : Int32} : mr50 S P 101 L (.int n :: st) sh M c s = ((sh.length < 900 ∧ ¬ n < 0 ∧ n.toNatClampNeg ≤ 10000 ∧ c + 1 ≤ 62 ∧ s + n.toNatClampNeg ≤ 18219) ∧ mr50 S P 104 L (.ref sh.length :: st) (sh ++ [.inr (.inr (3, n.toNatClampNeg, fun _ => none))]) (mv_wr M sh.length (fun _ => 0)) (c + 1) (s + n.toNatClampNeg)) := propext (mv_R_iff (i := .anewarray 32) (len := 3) (ax := [230]) (by decide +kernel))
theorem e50_104 {x : Nat} {a : Nat} : mr50 S P 104 L (.ref x :: .ref a :: st) sh M c s = (mv_kpr sh M a 4 8 x (mr50 S P) 107 L st c s) := (propext (mv_R_iff (i := .putfield 46) (len := 3) (ax := [531, 2, 4, 8, 3]) (by decide +kernel))).trans (q_tt)
theorem e50_107 : mr50 S P 107 L st sh M c s = (mr50 S P 108 L (.int (nI 0) :: st) sh M c s) := propext (mv_R_iff (i := .iconst 0) (len := 1) (ax := []) (by decide +kernel))
theorem e50_108 {x : Int32} : mr50 S P 108 L (.int x :: st) sh M c s = (q_hs L 1 ∧ mr50 S P 109 (L.set 1 (some (.int x))) st sh M c s) := (propext (mv_R_iff (i := .istore_n 1) (len := 1) (ax := []) (by decide +kernel))).trans (q_st_eq (K := fun L => mr50 S P 109 L st sh M c s))
theorem e50_109 : mr50 S P 109 L st sh M c s = (q_isI (q_gv L 1) ∧ mr50 S P 110 L (q_gv L 1 :: st) sh M c s) := (propext (mv_R_iff (i := .iload_n 1) (len := 1) (ax := []) (by decide +kernel))).trans (q_ldI_eq (K := fun st => mr50 S P 110 L st sh M c s))
theorem e50_110 : mr50 S P 110 L st sh M c s = (mr50 S P 111 L (.int (nI 2) :: st) sh M c s) := propext (mv_R_iff (i := .iconst 2) (len := 1) (ax := []) (by decide +kernel))
theorem e50_111 {y : Int32} {x : Int32} : mr50 S P 111 L (.int y :: .int x :: st) sh M c s = (if y ≤ x then mr50 S P 133 L st sh M c s else mr50 S P 114 L st sh M c s) := (propext (mv_R_iff (i := .if_icmp .ge 22) (len := 3) (ax := [133]) (by decide +kernel))).trans (q_br)
theorem e50_114 : mr50 S P 114 L st sh M c s = (q_isA (q_gv L 0) ∧ mr50 S P 115 L (q_gv L 0 :: st) sh M c s) := (propext (mv_R_iff (i := .aload_n 0) (len := 1) (ax := []) (by decide +kernel))).trans (q_ldA_eq (K := fun st => mr50 S P 115 L st sh M c s))
theorem e50_115 {a : Nat} : mr50 S P 115 L (.ref a :: st) sh M c s = (mv_kgf sh M a 4 8 (mr50 S P) 118 L st c s) := propext (mv_R_iff (i := .getfield 46) (len := 3) (ax := [531, 0, 4, 8]) (by decide +kernel))
theorem e50_118 : mr50 S P 118 L st sh M c s = (q_isI (q_gv L 1) ∧ mr50 S P 119 L (q_gv L 1 :: st) sh M c s) := (propext (mv_R_iff (i := .iload_n 1) (len := 1) (ax := []) (by decide +kernel))).trans (q_ldI_eq (K := fun st => mr50 S P 119 L st sh M c s))
theorem e50_119 : mr50 S P 119 L st sh M c s = ((sh.length < 900 ∧ c + 1 ≤ 62 ∧ s + 3 ≤ 18219) ∧ mr50 S P 122 L (.ref sh.length :: st) (sh ++ [.inr (.inl (0, [some .null, some .null, none]))]) (mv_wr M sh.length (fun _ => 0)) (c + 1) (s + 3)) := propext (mv_R_iff (i := .new 32) (len := 3) (ax := [230, 231, 111, 0, 3]) (by decide +kernel))
theorem e50_122 {x : Int32} : mr50 S P 122 L (.int x :: st) sh M c s = (mr50 S P 123 L (.int x :: .int x :: st) sh M c s) := propext (mv_R_iff (i := .dup) (len := 1) (ax := []) (by decide +kernel))
theorem e50_122r {x : Nat} : mr50 S P 122 L (.ref x :: st) sh M c s = (mr50 S P 123 L (.ref x :: .ref x :: st) sh M c s) := propext (mv_R_iff (i := .dup) (len := 1) (ax := []) (by decide +kernel))
theorem e50_123 {v1 : Value} : mr50 S P 123 L (v1 :: st) sh M c s = (mv_ss st ≤ 8 ∧ c + 2 ≤ 62 ∧ s + 798 ≤ 18219 ∧ mv_isO sh (some v1) 0 ∧ mv_kal S 4 [v1] sh M (mr50 S P) 126 L st (c + 2) (s + 798)) := (propext (mv_R_iff (i := .invokespecial 34) (len := 3) (ax := [6, 4, 1, 0, 2, 798, 232, 233, 111, 234]) (by decide +kernel))).trans (q_call6)
theorem e50_126 {x : Nat} {i : Int32} {a : Nat} : mr50 S P 126 L (.ref x :: .int i :: .ref a :: st) sh M c s = (mv_kas sh M a i x (mr50 S P) 127 L st c s) := propext (mv_R_iff (i := .aastore) (len := 1) (ax := []) (by decide +kernel))
theorem e50_127 : mr50 S P 127 L st sh M c s = ((q_isI (q_gv L 1) ∧ q_hs L 1) ∧ mr50 S P 130 (L.set 1 (some (q_inc (q_gv L 1) (nI 1)))) st sh M c s) := (propext (mv_R_iff (i := .iinc 1 1) (len := 3) (ax := []) (by decide +kernel))).trans (q_inc_eq (K := fun L => mr50 S P 130 L st sh M c s))
theorem e50_130 : mr50 S P 130 L st sh M c s = (mr50 S P 109 L st sh M c s) := propext (mv_R_iff (i := .goto (-21)) (len := 3) (ax := [109]) (by decide +kernel))
theorem e50_133 : mr50 S P 133 L st sh M c s = (q_isA (q_gv L 0) ∧ mr50 S P 134 L (q_gv L 0 :: st) sh M c s) := (propext (mv_R_iff (i := .aload_n 0) (len := 1) (ax := []) (by decide +kernel))).trans (q_ldA_eq (K := fun st => mr50 S P 134 L st sh M c s))
theorem e50_134 : mr50 S P 134 L st sh M c s = (mr50 S P 136 L (.int (nI 6) :: st) sh M c s) := propext (mv_R_iff (i := .bipush 6) (len := 2) (ax := []) (by decide +kernel))
theorem e50_136 {n : Int32} : mr50 S P 136 L (.int n :: st) sh M c s = ((sh.length < 900 ∧ ¬ n < 0 ∧ n.toNatClampNeg ≤ 10000 ∧ c + 1 ≤ 62 ∧ s + n.toNatClampNeg ≤ 18219) ∧ mr50 S P 138 L (.ref sh.length :: st) (sh ++ [.inl (0, n.toNatClampNeg)]) (mv_wr M sh.length (fun _ => 0)) (c + 1) (s + n.toNatClampNeg)) := propext (mv_R_iff (i := .newarray .int) (len := 2) (ax := [210, 0]) (by decide +kernel))
theorem e50_138 {x : Nat} {a : Nat} : mr50 S P 138 L (.ref x :: .ref a :: st) sh M c s = (mv_kpr sh M a 4 10 x (mr50 S P) 141 L st c s) := (propext (mv_R_iff (i := .putfield 49) (len := 3) (ax := [533, 2, 4, 10, 3]) (by decide +kernel))).trans (q_tt)
theorem e50_141 : mr50 S P 141 L st sh M c s = (q_isA (q_gv L 0) ∧ mr50 S P 142 L (q_gv L 0 :: st) sh M c s) := (propext (mv_R_iff (i := .aload_n 0) (len := 1) (ax := []) (by decide +kernel))).trans (q_ldA_eq (K := fun st => mr50 S P 142 L st sh M c s))
theorem e50_142 : mr50 S P 142 L st sh M c s = ((sh.length < 900 ∧ c + 1 ≤ 62 ∧ s + 4 ≤ 18219) ∧ mr50 S P 145 L (.ref sh.length :: st) (sh ++ [.inr (.inl (3, [some .null, some .null, some .null, none]))]) (mv_wr M sh.length (fun _ => 0)) (c + 1) (s + 4)) := propext (mv_R_iff (i := .new 53) (len := 3) (ax := [248, 249, 112, 3, 4]) (by decide +kernel))
theorem e50_145 {x : Int32} : mr50 S P 145 L (.int x :: st) sh M c s = (mr50 S P 146 L (.int x :: .int x :: st) sh M c s) := propext (mv_R_iff (i := .dup) (len := 1) (ax := []) (by decide +kernel))
theorem e50_145r {x : Nat} : mr50 S P 145 L (.ref x :: st) sh M c s = (mr50 S P 146 L (.ref x :: .ref x :: st) sh M c s) := propext (mv_R_iff (i := .dup) (len := 1) (ax := []) (by decide +kernel))
theorem e50_146 {v1 : Value} : mr50 S P 146 L (v1 :: st) sh M c s = (mv_ss st ≤ 8 ∧ c + 3 ≤ 62 ∧ s + 8204 ≤ 18219 ∧ mv_isO sh (some v1) 3 ∧ mv_kal S 5 [v1] sh M (mr50 S P) 149 L st (c + 3) (s + 8204)) := (propext (mv_R_iff (i := .invokespecial 55) (len := 3) (ax := [6, 5, 1, 3, 3, 8204, 250, 251, 112, 252]) (by decide +kernel))).trans (q_call6)
theorem e50_149 {x : Nat} {a : Nat} : mr50 S P 149 L (.ref x :: .ref a :: st) sh M c s = (mv_kpr sh M a 4 12 x (mr50 S P) 152 L st c s) := (propext (mv_R_iff (i := .putfield 56) (len := 3) (ax := [535, 2, 4, 12, 3]) (by decide +kernel))).trans (q_tt)
theorem e50_152 : mr50 S P 152 L st sh M c s = (q_isA (q_gv L 0) ∧ mr50 S P 153 L (q_gv L 0 :: st) sh M c s) := (propext (mv_R_iff (i := .aload_n 0) (len := 1) (ax := []) (by decide +kernel))).trans (q_ldA_eq (K := fun st => mr50 S P 153 L st sh M c s))
theorem e50_153 {a : Nat} : mr50 S P 153 L (.ref a :: st) sh M c s = (mv_kgf sh M a 4 0 (mr50 S P) 156 L st c s) := propext (mv_R_iff (i := .getfield 12) (len := 3) (ax := [523, 0, 4, 0]) (by decide +kernel))
theorem e50_156 : mr50 S P 156 L st sh M c s = (mr50 S P 158 L (.ref 1000 :: st) sh M c s) := propext (mv_R_iff (i := .ldc 60) (len := 2) (ax := [0, 0, 1]) (by decide +kernel))
theorem e50_158 {v2 : Value} {v1 : Value} : mr50 S P 158 L (v2 :: v1 :: st) sh M c s = (mv_ss st ≤ 8 ∧ c + 1 ≤ 62 ∧ s + 96 ≤ 18219 ∧ mv_isO sh (some v1) 6 ∧ mv_kal S 17 [v1, v2] sh M (mr50 S P) 161 L st (c + 1) (s + 96)) := (propext (mv_R_iff (i := .invokevirtual 62) (len := 3) (ax := [0, 17, 2, 6, 1, 96, 0, 268, 269, 270, 106, 271]) (by decide +kernel))).trans (q_call0)
theorem e50_161 {x : Int32} : mr50 S P 161 L (.int x :: st) sh M c s = (mr50 S P 162 L st sh M c s) := propext (mv_R_iff (i := .pop) (len := 1) (ax := []) (by decide +kernel))
theorem e50_161r {x : Nat} : mr50 S P 161 L (.ref x :: st) sh M c s = (mr50 S P 162 L st sh M c s) := propext (mv_R_iff (i := .pop) (len := 1) (ax := []) (by decide +kernel))
theorem e50_162 : mr50 S P 162 L st sh M c s = (q_isA (q_gv L 0) ∧ mr50 S P 163 L (q_gv L 0 :: st) sh M c s) := (propext (mv_R_iff (i := .aload_n 0) (len := 1) (ax := []) (by decide +kernel))).trans (q_ldA_eq (K := fun st => mr50 S P 163 L st sh M c s))
theorem e50_163 {v1 : Value} : mr50 S P 163 L (v1 :: st) sh M c s = (mv_ss st ≤ 8 ∧ c ≤ 62 ∧ s ≤ 18219 ∧ mv_isO sh (some v1) 4 ∧ mv_kal S 46 [v1] sh M (mr50 S P) 166 L st c s) := (propext (mv_R_iff (i := .invokevirtual 66) (len := 3) (ax := [0, 46, 1, 4, 0, 0, 0, 388, 389, 390, 104, 391]) (by decide +kernel))).trans (q_call0)
theorem e50_166 {x : Int32} : mr50 S P 166 L (.int x :: st) sh M c s = (mr50 S P 167 L st sh M c s) := propext (mv_R_iff (i := .pop) (len := 1) (ax := []) (by decide +kernel))
theorem e50_166r {x : Nat} : mr50 S P 166 L (.ref x :: st) sh M c s = (mr50 S P 167 L st sh M c s) := propext (mv_R_iff (i := .pop) (len := 1) (ax := []) (by decide +kernel))
theorem e50_167 : mr50 S P 167 L st sh M c s = (q_isA (q_gv L 0) ∧ mr50 S P 168 L (q_gv L 0 :: st) sh M c s) := (propext (mv_R_iff (i := .aload_n 0) (len := 1) (ax := []) (by decide +kernel))).trans (q_ldA_eq (K := fun st => mr50 S P 168 L st sh M c s))
theorem e50_168 {a : Nat} : mr50 S P 168 L (.ref a :: st) sh M c s = (mv_kgf sh M a 4 0 (mr50 S P) 171 L st c s) := propext (mv_R_iff (i := .getfield 12) (len := 3) (ax := [523, 0, 4, 0]) (by decide +kernel))
theorem e50_171 : mr50 S P 171 L st sh M c s = (mr50 S P 172 L (.int (nI 0) :: st) sh M c s) := propext (mv_R_iff (i := .iconst 0) (len := 1) (ax := []) (by decide +kernel))
theorem e50_172 {v2 : Value} {v1 : Value} : mr50 S P 172 L (v2 :: v1 :: st) sh M c s = (mv_ss st ≤ 8 ∧ c + 1 ≤ 62 ∧ s + 96 ≤ 18219 ∧ mv_isO sh (some v1) 6 ∧ mv_kal S 49 [v1, v2] sh M (mr50 S P) 175 L st (c + 1) (s + 96)) := (propext (mv_R_iff (i := .invokevirtual 70) (len := 3) (ax := [0, 49, 2, 6, 1, 96, 0, 503, 504, 505, 106, 506]) (by decide +kernel))).trans (q_call0)
theorem e50_175 : mr50 S P 175 L [] sh M c s = (P none sh M) := propext (mv_R_iff (i := .return_) (len := 1) (ax := []) (by decide +kernel))
end CD
