/-! rows by which the small machine is walked -/
section SIM
variable {L : mv_Loc} {i : Nat} {x : Option Value} {v w : Value} {n m : Int32} {k a : Nat} {st acc : List Value}
theorem q_ldI0 {f : Int32 → Prop} : mv_ldI (some (.int n) :: L) 0 f = f n := rfl
theorem q_ldIs {f : Int32 → Prop} : mv_ldI (x :: L) (i + 1) f = mv_ldI L i f := by
  rcases x with _ | v
  · rfl
  · cases v <;> rfl
theorem q_ldA0 {f : Nat → Prop} : mv_ldA (some (.ref k) :: L) 0 f = f k := rfl
theorem q_ldAs {f : Nat → Prop} : mv_ldA (x :: L) (i + 1) f = mv_ldA L i f := by
  rcases x with _ | v
  · rfl
  · cases v <;> rfl
theorem q_ldL0 {f : Int64 → Prop} {n : Int64} : mv_ldL (some (.long n) :: L) 0 f = f n := rfl
theorem q_ldLs {f : Int64 → Prop} : mv_ldL (x :: L) (i + 1) f = mv_ldL L i f := by
  rcases x with _ | v
  · rfl
  · cases v <;> rfl
theorem q_stA0 {f : mv_Loc → Prop} : mv_stA (x :: L) 0 v f = f (some v :: L) := by
  rcases x with _ | v
  · rfl
  · cases v <;> rfl
theorem q_stAn {f : mv_Loc → Prop} : mv_stA (none :: L) 1 v f = mv_stA L 0 v (fun L' => f (none :: L')) := rfl
theorem q_stAi {f : mv_Loc → Prop} : mv_stA (some (.int n) :: L) 1 v f = mv_stA L 0 v (fun L' => f (some (.int n) :: L')) := rfl
theorem q_stAr {f : mv_Loc → Prop} : mv_stA (some (.ref k) :: L) 1 v f = mv_stA L 0 v (fun L' => f (some (.ref k) :: L')) := rfl
theorem q_stAs {f : mv_Loc → Prop} : mv_stA (x :: L) (i + 2) v f = mv_stA L (i + 1) v (fun L' => f (x :: L')) := by
  rcases x with _ | v
  · rfl
  · cases v <;> rfl
theorem q_stL0 {f : mv_Loc → Prop} {y : Option Value} : mv_stL (x :: y :: L) 0 v f = f (some v :: none :: L) := by
  rcases x with _ | v
  · rfl
  · cases v <;> rfl
theorem q_stLn {f : mv_Loc → Prop} : mv_stL (none :: L) 1 v f = mv_stL L 0 v (fun L' => f (none :: L')) := rfl
theorem q_stLi {f : mv_Loc → Prop} : mv_stL (some (.int n) :: L) 1 v f = mv_stL L 0 v (fun L' => f (some (.int n) :: L')) := rfl
theorem q_stLr {f : mv_Loc → Prop} : mv_stL (some (.ref k) :: L) 1 v f = mv_stL L 0 v (fun L' => f (some (.ref k) :: L')) := rfl
theorem q_stLs {f : mv_Loc → Prop} : mv_stL (x :: L) (i + 2) v f = mv_stL L (i + 1) v (fun L' => f (x :: L')) := by
  rcases x with _ | v
  · rfl
  · cases v <;> rfl
theorem q_pI {f : Int32 → List Value → Prop} : mv_pI (.int n :: st) f = f n st := rfl
theorem q_pA {f : Nat → List Value → Prop} : mv_pA (.ref k :: st) f = f k st := rfl
theorem q_pL {f : Int64 → List Value → Prop} {n : Int64} : mv_pL (.long n :: st) f = f n st := rfl
theorem q_pVi {f : Value → List Value → Prop} : mv_pV (.int n :: st) f = f (.int n) st := rfl
theorem q_pVr {f : Value → List Value → Prop} : mv_pV (.ref k :: st) f = f (.ref k) st := rfl
theorem q_pR {f : Int32 → Prop} : mv_pR [.int n] f = f n := rfl
theorem q_pQ {f : Nat → Prop} : mv_pQ [.ref k] f = f k := rfl
theorem q_p0 {f : Prop} : mv_p0 [] f = f := rfl
theorem q_tk0 {f : List Value → List Value → Prop} : mv_tk 0 acc st f = f acc st := rfl
theorem q_tks {f : List Value → List Value → Prop} : mv_tk (i + 1) acc (v :: st) f = mv_tk i (v :: acc) st f := rfl
theorem q_ss0 : mv_ss [] = 0 := rfl
theorem q_ssi : mv_ss (.int n :: st) = mv_ss st + 1 := rfl
theorem q_ssr : mv_ss (.ref k :: st) = mv_ss st + 1 := rfl
theorem q_ssl {n : Int64} : mv_ss (.long n :: st) = mv_ss st + 2 := rfl
theorem q_nr0 : mv_nr 0 n = True := rfl
theorem q_nr10 : mv_nr 1 (nI 0) = True := eq_true (Or.inl rfl)
theorem q_nr11 : mv_nr 1 (nI 1) = True := eq_true (Or.inr rfl)
theorem q_pk0 : mv_pk 0 (.int n) = True := rfl
theorem q_pk3 : mv_pk 3 (.ref k) = True := rfl
theorem q_some {f : Nat → Prop} : mv_some (some k) f = f k := rfl
theorem q_tlS : (some v).toList ++ st = v :: st := rfl
theorem q_tlN : (none : Option Value).toList ++ st = st := rfl
theorem q_hd : (v :: st).head? = some v := rfl
theorem q_sw0 {f : Nat → Prop} {d : Nat} {z : Int} : mv_sw n z [] d f = f d := rfl
theorem q_sws {f : Nat → Prop} {d t : Nat} {ts : List Nat} {z : Int} : mv_sw n z (t :: ts) d f = ((n = Int32.ofInt z → f t) ∧ (¬ n = Int32.ofInt z → mv_sw n (z + 1) ts d f)) := rfl
theorem q_ls0 {f : Nat → Prop} {d : Nat} : mv_ls n [] d f = f d := rfl
theorem q_lss {f : Nat → Prop} {d t : Nat} {ts : List (Int × Nat)} {z : Int} : mv_ls n ((z, t) :: ts) d f = ((n = Int32.ofInt z → f t) ∧ (¬ n = Int32.ofInt z → mv_ls n ts d f)) := rfl
theorem q_cal {S : Nat → mv_Sp} {j : Nat} {As : List Value} {sh sh' : mv_Shp} {M M' : mv_Mem} {F : mv_Post} {r : Option Value} (h : ∀ Q : mv_Post, Q r sh' M' → S j As sh M Q) (hf : F r sh' M') : mv_cal S j As sh M F :=
  ⟨fun v s m => v = r ∧ s = sh' ∧ m = M', h _ ⟨rfl, rfl, rfl⟩, fun v s m ⟨a, b, c⟩ => by subst a; subst b; subst c; exact hf⟩
theorem q_cali {S : Nat → mv_Sp} {j : Nat} {As : List Value} {sh sh' : mv_Shp} {M M' : mv_Mem} {F : mv_Post} {r : Option Value} (h : ∀ Q : mv_Post, S j As sh M Q ↔ Q r sh' M') : mv_cal S j As sh M F = F r sh' M' :=
  propext ⟨fun ⟨Q, h1, h2⟩ => h2 _ _ _ ((h Q).mp h1), fun z => q_cal (fun Q hq => (h Q).mpr hq) z⟩
-- numbers
theorem q_in {a N : Nat} (h : a < N) (hN : N < 2147483648) : vp_in (nI a) N = True := eq_true (vp_in_nI h hN)
theorem q_cl {a : Nat} (h : a < 2147483648) : (nI a).toNatClampNeg = a := nI_clamp h
theorem q_let {a b : Nat} (h : a ≤ b) (hb : b < 2147483648) : (nI a ≤ nI b) = True := eq_true ((nI_leI (by omega) hb).mpr h)
theorem q_lef {a b : Nat} (h : b < a) (ha : a < 2147483648) : (nI a ≤ nI b) = False := eq_false (fun z => by have := (nI_leI ha (by omega)).mp z; omega)
theorem q_ltt {a b : Nat} (h : a < b) (hb : b < 2147483648) : (nI a < nI b) = True := eq_true ((nI_ltI (by omega) hb).mpr h)
theorem q_ltf {a b : Nat} (h : b ≤ a) (ha : a < 2147483648) : (nI a < nI b) = False := eq_false (fun z => by have := (nI_ltI ha (by omega)).mp z; omega)
theorem q_eqt {a b : Nat} (h : a = b) : (nI a = nI b) = True := by subst h; exact eq_true rfl
theorem q_eqf {a b : Nat} (h : ¬ a = b) (ha : a < 2147483648) (hb : b < 2147483648) : (nI a = nI b) = False := eq_false (fun z => h ((nI_eq ha hb).mp z))
theorem q_eqo {a b : Nat} (h : a ≠ b) (ha : a < 2147483648) (hb : b < 2147483648) : (nI a = Int32.ofInt (b : Int)) = False := q_eqf h ha hb
theorem q_oi0 : Int32.ofInt 0 = nI 0 := rfl
theorem q_oi1 : Int32.ofInt 1 = nI 1 := rfl
theorem q_oi2 : Int32.ofInt 2 = nI 2 := rfl
theorem q_oi3 : Int32.ofInt 3 = nI 3 := rfl
theorem q_oi4 : Int32.ofInt 4 = nI 4 := rfl
theorem q_oi5 : Int32.ofInt 5 = nI 5 := rfl
theorem q_oi6 : Int32.ofInt 6 = nI 6 := rfl
theorem q_oi7 : Int32.ofInt 7 = nI 7 := rfl
theorem q_oi8 : Int32.ofInt 8 = nI 8 := rfl
theorem q_oi9 : Int32.ofInt 9 = nI 9 := rfl
theorem q_add {a b : Nat} : nI a + nI b = nI (a + b) := nI_add a b
theorem q_mul {a b : Nat} : nI a * nI b = nI (a * b) := pk_mul a b
theorem q_sub {a b : Nat} (h : b ≤ a) : nI a - nI b = nI (a - b) := pk_sub h
theorem q_div {a d : Nat} (ha : a < 2147483648) (h0 : 0 < d) (hd : d < 2147483648) : nI a / nI d = nI (a / d) := pk_div ha h0 hd
def q_rm (x y : Int32) : Int32 := x - x / y * y
theorem q_rem {a d : Nat} (ha : a < 2147483648) (h0 : 0 < d) (hd : d < 2147483648) : q_rm (nI a) (nI d) = nI (a % d) := pk_rem ha h0 hd
theorem q_upS {M : mv_Mem} {a i : Nat} {x : Int32} : mv_up M a i x a i = x := by simp [mv_up, upd]
theorem q_upN {M : mv_Mem} {a i b j : Nat} {x : Int32} (h : ¬ (b = a ∧ j = i)) : mv_up M a i x b j = M b j := by
  unfold mv_up upd
  by_cases hb : b = a
  · subst hb
    have : ¬ j = i := fun z => h ⟨rfl, z⟩
    simp [this]
  · simp [hb]
theorem q_upO {M : mv_Mem} {a i b : Nat} {x : Int32} (h : ¬ b = a) : mv_up M a i x b = M b := if_neg h
theorem q_k0 {A B : Prop} : (((0 : Nat) < 3 ∨ 4 < (0 : Nat) ∧ (0 : Nat) < 8 → A) ∧ ((0 : Nat) = 8 → B)) = A := by simp
theorem q_k1 {A B : Prop} : (((1 : Nat) < 3 ∨ 4 < (1 : Nat) ∧ (1 : Nat) < 8 → A) ∧ ((1 : Nat) = 8 → B)) = A := by simp
theorem q_k2 {A B : Prop} : (((2 : Nat) < 3 ∨ 4 < (2 : Nat) ∧ (2 : Nat) < 8 → A) ∧ ((2 : Nat) = 8 → B)) = A := by simp
theorem q_k3 {A B : Prop} : (((3 : Nat) < 3 ∨ 4 < (3 : Nat) ∧ (3 : Nat) < 8 → A) ∧ ((3 : Nat) = 8 → B)) = True := by simp
theorem q_k4 {A B : Prop} : (((4 : Nat) < 3 ∨ 4 < (4 : Nat) ∧ (4 : Nat) < 8 → A) ∧ ((4 : Nat) = 8 → B)) = True := by simp
theorem q_k5 {A B : Prop} : (((5 : Nat) < 3 ∨ 4 < (5 : Nat) ∧ (5 : Nat) < 8 → A) ∧ ((5 : Nat) = 8 → B)) = A := by simp
theorem q_k6 {A B : Prop} : (((6 : Nat) < 3 ∨ 4 < (6 : Nat) ∧ (6 : Nat) < 8 → A) ∧ ((6 : Nat) = 8 → B)) = A := by simp
theorem q_k8 {A B : Prop} : (((8 : Nat) < 3 ∨ 4 < (8 : Nat) ∧ (8 : Nat) < 8 → A) ∧ ((8 : Nat) = 8 → B)) = B := by simp
theorem nI_inj {a b : Nat} (h : nI a = nI b) (ha : a < 2147483648) (hb : b < 2147483648) : a = b := (nI_eq ha hb).mp h
end SIM
/-- an object of TurnedTablets$Cloth at a, its arrays behind it -/
def oC (sh : mv_Shp) (a : Nat) : Prop := sh[a]? = some (.inr (.inl (0, [some (.ref (a + 1)), some (.ref (a + 2)), none]))) ∧ sh[a + 1]? = some (.inl (0, 30)) ∧ sh[a + 2]? = some (.inl (0, 768))
section
variable {sh : mv_Shp} {M : mv_Mem} {a : Nat}
theorem oC.g0 (h : oC sh a) {f : Value → Prop} : mv_gf sh M a 0 0 f = f (.ref (a + 1)) := by
  unfold mv_gf; rw [h.1]; simp
theorem oC.g1 (h : oC sh a) {f : Value → Prop} : mv_gf sh M a 0 1 f = f (.ref (a + 2)) := by
  unfold mv_gf; rw [h.1]; simp
theorem oC.g2 (h : oC sh a) {f : Value → Prop} : mv_gf sh M a 0 2 f = f (.int (M a 2)) := by
  unfold mv_gf; rw [h.1]; simp
theorem oC.p2 (h : oC sh a) {v : Int32} {f : mv_Shp → mv_Mem → Prop} : mv_pf sh M a 0 2 (.int v) f = f sh (mv_up M a 2 v) := by
  unfold mv_pf; rw [h.1]; simp
theorem oC.o (h : oC sh a) : mv_isO sh (some (.ref a)) 0 = True := by
  unfold mv_isO; dsimp only; rw [h.1]; simp
theorem oC.n1 (h : oC sh a) {f : Nat → Nat → Prop} : mv_nums sh (a + 1) f = f 0 30 := by
  unfold mv_nums; rw [h.2.1]
theorem oC.n2 (h : oC sh a) {f : Nat → Nat → Prop} : mv_nums sh (a + 2) f = f 0 768 := by
  unfold mv_nums; rw [h.2.2]
end
/-- an object of TurnedTablets$Loom at a, its arrays behind it -/
def oL (sh : mv_Shp) (a : Nat) : Prop := sh[a]? = some (.inr (.inl (1, [none, none, none, none, some (.ref (a + 1)), some (.ref (a + 2)), some (.ref (a + 3)), some (.ref (a + 4)), some (.ref (a + 5)), some (.ref (a + 6))]))) ∧ sh[a + 1]? = some (.inl (0, 6)) ∧ sh[a + 2]? = some (.inl (0, 6)) ∧ sh[a + 3]? = some (.inl (0, 24)) ∧ sh[a + 4]? = some (.inl (0, 24)) ∧ sh[a + 5]? = some (.inl (0, 6)) ∧ sh[a + 6]? = some (.inl (0, 8))
section
variable {sh : mv_Shp} {M : mv_Mem} {a : Nat}
theorem oL.g0 (h : oL sh a) {f : Value → Prop} : mv_gf sh M a 1 0 f = f (.int (M a 0)) := by
  unfold mv_gf; rw [h.1]; simp
theorem oL.p0 (h : oL sh a) {v : Int32} {f : mv_Shp → mv_Mem → Prop} : mv_pf sh M a 1 0 (.int v) f = f sh (mv_up M a 0 v) := by
  unfold mv_pf; rw [h.1]; simp
theorem oL.g1 (h : oL sh a) {f : Value → Prop} : mv_gf sh M a 1 1 f = f (.int (M a 1)) := by
  unfold mv_gf; rw [h.1]; simp
theorem oL.p1 (h : oL sh a) {v : Int32} {f : mv_Shp → mv_Mem → Prop} : mv_pf sh M a 1 1 (.int v) f = f sh (mv_up M a 1 v) := by
  unfold mv_pf; rw [h.1]; simp
theorem oL.g2 (h : oL sh a) {f : Value → Prop} : mv_gf sh M a 1 2 f = f (.int (M a 2)) := by
  unfold mv_gf; rw [h.1]; simp
theorem oL.p2 (h : oL sh a) {v : Int32} {f : mv_Shp → mv_Mem → Prop} : mv_pf sh M a 1 2 (.int v) f = f sh (mv_up M a 2 v) := by
  unfold mv_pf; rw [h.1]; simp
theorem oL.g3 (h : oL sh a) {f : Value → Prop} : mv_gf sh M a 1 3 f = f (.int (M a 3)) := by
  unfold mv_gf; rw [h.1]; simp
theorem oL.p3 (h : oL sh a) {v : Int32} {f : mv_Shp → mv_Mem → Prop} : mv_pf sh M a 1 3 (.int v) f = f sh (mv_up M a 3 v) := by
  unfold mv_pf; rw [h.1]; simp
theorem oL.g4 (h : oL sh a) {f : Value → Prop} : mv_gf sh M a 1 4 f = f (.ref (a + 1)) := by
  unfold mv_gf; rw [h.1]; simp
theorem oL.g5 (h : oL sh a) {f : Value → Prop} : mv_gf sh M a 1 5 f = f (.ref (a + 2)) := by
  unfold mv_gf; rw [h.1]; simp
theorem oL.g6 (h : oL sh a) {f : Value → Prop} : mv_gf sh M a 1 6 f = f (.ref (a + 3)) := by
  unfold mv_gf; rw [h.1]; simp
theorem oL.g7 (h : oL sh a) {f : Value → Prop} : mv_gf sh M a 1 7 f = f (.ref (a + 4)) := by
  unfold mv_gf; rw [h.1]; simp
theorem oL.g8 (h : oL sh a) {f : Value → Prop} : mv_gf sh M a 1 8 f = f (.ref (a + 5)) := by
  unfold mv_gf; rw [h.1]; simp
theorem oL.g9 (h : oL sh a) {f : Value → Prop} : mv_gf sh M a 1 9 f = f (.ref (a + 6)) := by
  unfold mv_gf; rw [h.1]; simp
theorem oL.o (h : oL sh a) : mv_isO sh (some (.ref a)) 1 = True := by
  unfold mv_isO; dsimp only; rw [h.1]; simp
theorem oL.n1 (h : oL sh a) {f : Nat → Nat → Prop} : mv_nums sh (a + 1) f = f 0 6 := by
  unfold mv_nums; rw [h.2.1]
theorem oL.n2 (h : oL sh a) {f : Nat → Nat → Prop} : mv_nums sh (a + 2) f = f 0 6 := by
  unfold mv_nums; rw [h.2.2.1]
theorem oL.n3 (h : oL sh a) {f : Nat → Nat → Prop} : mv_nums sh (a + 3) f = f 0 24 := by
  unfold mv_nums; rw [h.2.2.2.1]
theorem oL.n4 (h : oL sh a) {f : Nat → Nat → Prop} : mv_nums sh (a + 4) f = f 0 24 := by
  unfold mv_nums; rw [h.2.2.2.2.1]
theorem oL.n5 (h : oL sh a) {f : Nat → Nat → Prop} : mv_nums sh (a + 5) f = f 0 6 := by
  unfold mv_nums; rw [h.2.2.2.2.2.1]
theorem oL.n6 (h : oL sh a) {f : Nat → Nat → Prop} : mv_nums sh (a + 6) f = f 0 8 := by
  unfold mv_nums; rw [h.2.2.2.2.2.2]
end
/-- an object of TurnedTablets$Search at a, its arrays behind it -/
def oS (sh : mv_Shp) (a : Nat) : Prop := sh[a]? = some (.inr (.inl (3, [some (.ref (a + 1)), some (.ref (a + 2)), some (.ref (a + 3)), none]))) ∧ sh[a + 1]? = some (.inl (0, 4096)) ∧ sh[a + 2]? = some (.inl (0, 4096)) ∧ sh[a + 3]? = some (.inl (0, 12))
section
variable {sh : mv_Shp} {M : mv_Mem} {a : Nat}
theorem oS.g0 (h : oS sh a) {f : Value → Prop} : mv_gf sh M a 3 0 f = f (.ref (a + 1)) := by
  unfold mv_gf; rw [h.1]; simp
theorem oS.g1 (h : oS sh a) {f : Value → Prop} : mv_gf sh M a 3 1 f = f (.ref (a + 2)) := by
  unfold mv_gf; rw [h.1]; simp
theorem oS.g2 (h : oS sh a) {f : Value → Prop} : mv_gf sh M a 3 2 f = f (.ref (a + 3)) := by
  unfold mv_gf; rw [h.1]; simp
theorem oS.g3 (h : oS sh a) {f : Value → Prop} : mv_gf sh M a 3 3 f = f (.int (M a 3)) := by
  unfold mv_gf; rw [h.1]; simp
theorem oS.p3 (h : oS sh a) {v : Int32} {f : mv_Shp → mv_Mem → Prop} : mv_pf sh M a 3 3 (.int v) f = f sh (mv_up M a 3 v) := by
  unfold mv_pf; rw [h.1]; simp
theorem oS.o (h : oS sh a) : mv_isO sh (some (.ref a)) 3 = True := by
  unfold mv_isO; dsimp only; rw [h.1]; simp
theorem oS.n1 (h : oS sh a) {f : Nat → Nat → Prop} : mv_nums sh (a + 1) f = f 0 4096 := by
  unfold mv_nums; rw [h.2.1]
theorem oS.n2 (h : oS sh a) {f : Nat → Nat → Prop} : mv_nums sh (a + 2) f = f 0 4096 := by
  unfold mv_nums; rw [h.2.2.1]
theorem oS.n3 (h : oS sh a) {f : Nat → Nat → Prop} : mv_nums sh (a + 3) f = f 0 12 := by
  unfold mv_nums; rw [h.2.2.2]
end
