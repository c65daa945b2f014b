/-! rows by which the small machine is walked -/
section SIM
variable {L : mv_Loc} {i : Nat} {x : Option Value} {v w : Value} {n m : Int32} {k a : Nat} {st acc : List Value}
def q_gv (L : mv_Loc) (i : Nat) : Value := ((L[i]?).getD none).getD .null
theorem q_gv0 {L : mv_Loc} {v : Value} : q_gv (some v :: L) 0 = v := rfl
theorem q_gvs {L : mv_Loc} {x : Option Value} {i : Nat} : q_gv (x :: L) (i + 1) = q_gv L i := rfl
def q_isI : Value → Prop
  | .int _ => True
  | _ => False
def q_isA : Value → Prop
  | .ref _ => True
  | _ => False
def q_isL : Value → Prop
  | .long _ => True
  | _ => False
theorem q_isI1 : q_isI (.int n) = True := rfl
theorem q_isA1 : q_isA (.ref k) = True := rfl
theorem q_isL1 {n : Int64} : q_isL (.long n) = True := rfl
def q_hs : mv_Loc → Nat → Prop
  | [], _ => False
  | _ :: _, 0 => True
  | some (.long _) :: _, 1 => False
  | _ :: L, i + 1 => q_hs L i
theorem q_hs0 : q_hs (x :: L) 0 = True := by
  rcases x with _ | v
  · rfl
  · cases v <;> rfl
theorem q_hsn : q_hs (none :: L) 1 = q_hs L 0 := rfl
theorem q_hsi : q_hs (some (.int n) :: L) 1 = q_hs L 0 := rfl
theorem q_hsr : q_hs (some (.ref k) :: L) 1 = q_hs L 0 := rfl
theorem q_hss : q_hs (x :: L) (i + 2) = q_hs L (i + 1) := by
  rcases x with _ | v
  · rfl
  · cases v <;> rfl
def q_hl : mv_Loc → Nat → Prop
  | [], _ => False
  | [_], 0 => False
  | _ :: _ :: _, 0 => True
  | some (.long _) :: _, 1 => False
  | _ :: L, i + 1 => q_hl L i
def q_inc : Value → Int32 → Value
  | .int v, k => .int (v + k)
  | v, _ => v
theorem q_inc1 {m : Int32} : q_inc (.int n) m = .int (n + m) := rfl
theorem q_ldI_eq {K : List Value → Prop} : mv_ldI L i (fun v => K (.int v :: st)) = (q_isI (q_gv L i) ∧ K (q_gv L i :: st)) := by
  apply propext
  rw [mv_ldI_iff]
  unfold q_gv
  constructor
  · rintro ⟨v, h1, h2⟩; rw [h1]; exact ⟨trivial, h2⟩
  · rintro ⟨h1, h2⟩
    cases h : L[i]? with
    | none => rw [h] at h1; exact h1.elim
    | some o =>
      cases o with
      | none => rw [h] at h1; exact h1.elim
      | some w =>
        rw [h] at h1 h2
        cases w <;> first | exact ⟨_, rfl, h2⟩ | exact h1.elim
theorem q_ldA_eq {K : List Value → Prop} : mv_ldA L i (fun v => K (.ref v :: st)) = (q_isA (q_gv L i) ∧ K (q_gv L i :: st)) := by
  apply propext
  rw [mv_ldA_iff]
  unfold q_gv
  constructor
  · rintro ⟨v, h1, h2⟩; rw [h1]; exact ⟨trivial, h2⟩
  · rintro ⟨h1, h2⟩
    cases h : L[i]? with
    | none => rw [h] at h1; exact h1.elim
    | some o =>
      cases o with
      | none => rw [h] at h1; exact h1.elim
      | some w =>
        rw [h] at h1 h2
        cases w <;> first | exact ⟨_, rfl, h2⟩ | exact h1.elim
theorem q_ldL_eq {K : List Value → Prop} : mv_ldL L i (fun v => K (.long v :: st)) = (q_isL (q_gv L i) ∧ K (q_gv L i :: st)) := by
  apply propext
  rw [mv_ldL_iff]
  unfold q_gv
  constructor
  · rintro ⟨v, h1, h2⟩; rw [h1]; exact ⟨trivial, h2⟩
  · rintro ⟨h1, h2⟩
    cases h : L[i]? with
    | none => rw [h] at h1; exact h1.elim
    | some o =>
      cases o with
      | none => rw [h] at h1; exact h1.elim
      | some w =>
        rw [h] at h1 h2
        cases w <;> first | exact ⟨_, rfl, h2⟩ | exact h1.elim
theorem q_st_eq {K : mv_Loc → Prop} : ∀ {L : mv_Loc} {i : Nat}, mv_stA L i v K = (q_hs L i ∧ K (L.set i (some v)))
  | [], i => by simp [mv_stA, q_hs]
  | x :: L, 0 => by
    have : mv_stA (x :: L) 0 v K = K (some v :: L) := by
      rcases x with _ | y
      · rfl
      · cases y <;> rfl
    rw [this, q_hs0, true_and]; rfl
  | x :: L, 1 => by
    by_cases hx : ∃ w, x = some (.long w)
    · obtain ⟨w, rfl⟩ := hx
      show False = (False ∧ _)
      rw [false_and]
    · have e1 : mv_stA (x :: L) 1 v K = mv_stA L 0 v (fun L' => K (x :: L')) := by
        rcases x with _ | y
        · rfl
        · cases y <;> first | rfl | exact absurd ⟨_, rfl⟩ hx
      have e2 : q_hs (x :: L) 1 = q_hs L 0 := by
        rcases x with _ | y
        · rfl
        · cases y <;> first | rfl | exact absurd ⟨_, rfl⟩ hx
      rw [e1, e2, q_st_eq]; rfl
  | x :: L, i + 2 => by
    have e1 : mv_stA (x :: L) (i + 2) v K = mv_stA L (i + 1) v (fun L' => K (x :: L')) := by
      rcases x with _ | y
      · rfl
      · cases y <;> rfl
    rw [e1, q_hss, q_st_eq]; rfl
theorem q_inc_eq {K : mv_Loc → Prop} {m : Int32} : mv_ldI L i (fun v => mv_stA L i (.int (v + m)) K) = ((q_isI (q_gv L i) ∧ q_hs L i) ∧ K (L.set i (some (q_inc (q_gv L i) m)))) := by
  apply propext
  rw [mv_ldI_iff]
  unfold q_gv
  constructor
  · rintro ⟨v, h1, h2⟩
    rw [q_st_eq] at h2
    rw [h1]; exact ⟨⟨trivial, h2.1⟩, h2.2⟩
  · rintro ⟨⟨h1, h2⟩, h3⟩
    cases h : L[i]? with
    | none => rw [h] at h1; exact h1.elim
    | some o =>
      cases o with
      | none => rw [h] at h1; exact h1.elim
      | some w =>
        rw [h] at h1 h3
        cases w <;> first | (refine ⟨_, rfl, ?_⟩; rw [q_st_eq]; exact ⟨h2, h3⟩) | exact h1.elim
theorem q_tt {p : Prop} : (True ∧ p) = p := true_and p
theorem q_ss0 : mv_ss [] = 0 := rfl
theorem q_ssi : mv_ss (.int n :: st) = mv_ss st + 1 := rfl
theorem q_ssr : mv_ss (.ref k :: st) = mv_ss st + 1 := rfl
theorem q_ssl {n : Int64} : mv_ss (.long n :: st) = mv_ss st + 2 := rfl
theorem q_nr0 : mv_nr 0 n = True := rfl
theorem q_nr10 : mv_nr 1 (nI 0) = True := eq_true (Or.inl rfl)
theorem q_nr11 : mv_nr 1 (nI 1) = True := eq_true (Or.inr rfl)
theorem q_pk0 : mv_pk 0 (.int n) = True := rfl
theorem q_pk3 : mv_pk 3 (.ref k) = True := rfl
theorem q_tlS : (some v).toList ++ st = v :: st := rfl
theorem q_tlN : (none : Option Value).toList ++ st = st := rfl
theorem q_hd : (v :: st).head? = some v := rfl
theorem q_cal {S : Nat → mv_Sp} {j : Nat} {As : List Value} {sh sh' : mv_Shp} {M M' : mv_Mem} {F : mv_Post} {r : Option Value} (h : ∀ Q : mv_Post, Q r sh' M' → S j As sh M Q) (hf : F r sh' M') : mv_cal S j As sh M F :=
  ⟨fun v s m => v = r ∧ s = sh' ∧ m = M', h _ ⟨rfl, rfl, rfl⟩, fun v s m ⟨a, b, c⟩ => by subst a; subst b; subst c; exact hf⟩
theorem q_cali {S : Nat → mv_Sp} {j : Nat} {As : List Value} {sh sh' : mv_Shp} {M M' : mv_Mem} {F : mv_Post} {r : Option Value} (h : ∀ Q : mv_Post, S j As sh M Q ↔ Q r sh' M') : mv_cal S j As sh M F = F r sh' M' :=
  propext ⟨fun ⟨Q, h1, h2⟩ => h2 _ _ _ ((h Q).mp h1), fun z => q_cal (fun Q hq => (h Q).mpr hq) z⟩
-- numbers
theorem q_in {a N : Nat} (h : a < N) (hN : N < 2147483648) : vp_in (nI a) N = True := eq_true (vp_in_nI h hN)
theorem q_cl {a : Nat} (h : a < 2147483648) : (nI a).toNatClampNeg = a := nI_clamp h
theorem q_let {a b : Nat} (h : a ≤ b) (hb : b < 2147483648) : (nI a ≤ nI b) = True := eq_true ((nI_leI (by omega) hb).mpr h)
theorem q_lef {a b : Nat} (h : b < a) (ha : a < 2147483648) : (nI a ≤ nI b) = False := eq_false (fun z => by have := (nI_leI ha (by omega)).mp z; omega)
theorem q_ltt {a b : Nat} (h : a < b) (hb : b < 2147483648) : (nI a < nI b) = True := eq_true ((nI_ltI (by omega) hb).mpr h)
theorem q_ltf {a b : Nat} (h : b ≤ a) (ha : a < 2147483648) : (nI a < nI b) = False := eq_false (fun z => by have := (nI_ltI ha (by omega)).mp z; omega)
theorem q_eqt {a b : Nat} (h : a = b) : (nI a = nI b) = True := by subst h; exact eq_true rfl
theorem q_eqf {a b : Nat} (h : ¬ a = b) (ha : a < 2147483648) (hb : b < 2147483648) : (nI a = nI b) = False := eq_false (fun z => h ((nI_eq ha hb).mp z))
theorem q_eqo {a b : Nat} (h : a ≠ b) (ha : a < 2147483648) (hb : b < 2147483648) : (nI a = Int32.ofInt (b : Int)) = False := q_eqf h ha hb
theorem q_oi0 : Int32.ofInt 0 = nI 0 := rfl
theorem q_oi1 : Int32.ofInt 1 = nI 1 := rfl
theorem q_oi2 : Int32.ofInt 2 = nI 2 := rfl
theorem q_oi3 : Int32.ofInt 3 = nI 3 := rfl
theorem q_oi4 : Int32.ofInt 4 = nI 4 := rfl
theorem q_oi5 : Int32.ofInt 5 = nI 5 := rfl
theorem q_oi6 : Int32.ofInt 6 = nI 6 := rfl
theorem q_oi7 : Int32.ofInt 7 = nI 7 := rfl
theorem q_oi8 : Int32.ofInt 8 = nI 8 := rfl
theorem q_oi9 : Int32.ofInt 9 = nI 9 := rfl
theorem q_add {a b : Nat} : nI a + nI b = nI (a + b) := nI_add a b
theorem q_mul {a b : Nat} : nI a * nI b = nI (a * b) := pk_mul a b
theorem q_sub {a b : Nat} (h : b ≤ a) : nI a - nI b = nI (a - b) := pk_sub h
theorem q_div {a d : Nat} (ha : a < 2147483648) (h0 : 0 < d) (hd : d < 2147483648) : nI a / nI d = nI (a / d) := pk_div ha h0 hd
def q_rm (x y : Int32) : Int32 := x - x / y * y
theorem q_rem {a d : Nat} (ha : a < 2147483648) (h0 : 0 < d) (hd : d < 2147483648) : q_rm (nI a) (nI d) = nI (a % d) := pk_rem ha h0 hd
theorem q_upS {M : mv_Mem} {a i : Nat} {x : Int32} : mv_up M a i x a i = x := by simp [mv_up, upd]
theorem q_upN {M : mv_Mem} {a i b j : Nat} {x : Int32} (h : ¬ (b = a ∧ j = i)) : mv_up M a i x b j = M b j := by
  unfold mv_up upd
  by_cases hb : b = a
  · subst hb
    have : ¬ j = i := fun z => h ⟨rfl, z⟩
    simp [this]
  · simp [hb]
theorem q_upO {M : mv_Mem} {a i b : Nat} {x : Int32} (h : ¬ b = a) : mv_up M a i x b = M b := if_neg h
theorem q_k0 {A B : Prop} : (((0 : Nat) < 3 ∨ 4 < (0 : Nat) ∧ (0 : Nat) < 8 → A) ∧ ((0 : Nat) = 8 → B)) = A := by simp
theorem q_k1 {A B : Prop} : (((1 : Nat) < 3 ∨ 4 < (1 : Nat) ∧ (1 : Nat) < 8 → A) ∧ ((1 : Nat) = 8 → B)) = A := by simp
theorem q_k2 {A B : Prop} : (((2 : Nat) < 3 ∨ 4 < (2 : Nat) ∧ (2 : Nat) < 8 → A) ∧ ((2 : Nat) = 8 → B)) = A := by simp
theorem q_k3 {A B : Prop} : (((3 : Nat) < 3 ∨ 4 < (3 : Nat) ∧ (3 : Nat) < 8 → A) ∧ ((3 : Nat) = 8 → B)) = True := by simp
theorem q_k4 {A B : Prop} : (((4 : Nat) < 3 ∨ 4 < (4 : Nat) ∧ (4 : Nat) < 8 → A) ∧ ((4 : Nat) = 8 → B)) = True := by simp
theorem q_k5 {A B : Prop} : (((5 : Nat) < 3 ∨ 4 < (5 : Nat) ∧ (5 : Nat) < 8 → A) ∧ ((5 : Nat) = 8 → B)) = A := by simp
theorem q_k6 {A B : Prop} : (((6 : Nat) < 3 ∨ 4 < (6 : Nat) ∧ (6 : Nat) < 8 → A) ∧ ((6 : Nat) = 8 → B)) = A := by simp
theorem q_k8 {A B : Prop} : (((8 : Nat) < 3 ∨ 4 < (8 : Nat) ∧ (8 : Nat) < 8 → A) ∧ ((8 : Nat) = 8 → B)) = B := by simp
theorem q_br {c A B : Prop} [Decidable c] : ((c → A) ∧ (¬ c → B)) = (if c then A else B) := by
  by_cases h : c <;> simp [h]
theorem q_br' {c A B : Prop} [Decidable c] : ((¬ c → A) ∧ (c → B)) = (if c then B else A) := by
  by_cases h : c <;> simp [h]

def q_ch (x : Int32) : Int32 := (x.toUInt32 % 65536).toInt32
def q_rl (x y : Int64) : Int64 := x - x / y * y
/-- steps that ask the shape -/
def mv_kgf (sh : mv_Shp) (M : mv_Mem) (a ci j : Nat) (K : mv_Kt) (pc : Nat) (L : mv_Loc) (st : List Value) (c s : Nat) : Prop := mv_gf sh M a ci j (fun v => K pc L (v :: st) sh M c s)
def mv_kpf (sh : mv_Shp) (M : mv_Mem) (a ci j : Nat) (x : Int32) (K : mv_Kt) (pc : Nat) (L : mv_Loc) (st : List Value) (c s : Nat) : Prop := mv_pf sh M a ci j (.int x) (fun sh M => K pc L st sh M c s)
def mv_kpr (sh : mv_Shp) (M : mv_Mem) (a ci j x : Nat) (K : mv_Kt) (pc : Nat) (L : mv_Loc) (st : List Value) (c s : Nat) : Prop := mv_pf sh M a ci j (.ref x) (fun sh M => K pc L st sh M c s)
def mv_kld (sh : mv_Shp) (M : mv_Mem) (a : Nat) (i : Int32) (K : mv_Kt) (pc : Nat) (L : mv_Loc) (st : List Value) (c s : Nat) : Prop := mv_nums sh a (fun t n => (t = 0 ∧ vp_in i n) ∧ K pc L (.int (M a i.toNatClampNeg) :: st) sh M c s)
def mv_kbl (sh : mv_Shp) (M : mv_Mem) (a : Nat) (i : Int32) (K : mv_Kt) (pc : Nat) (L : mv_Loc) (st : List Value) (c s : Nat) : Prop := mv_nums sh a (fun t n => ((t = 1 ∨ t = 2) ∧ vp_in i n) ∧ K pc L (.int (M a i.toNatClampNeg) :: st) sh M c s)
def mv_kst (sh : mv_Shp) (M : mv_Mem) (a : Nat) (i x : Int32) (K : mv_Kt) (pc : Nat) (L : mv_Loc) (st : List Value) (c s : Nat) : Prop := mv_nums sh a (fun t n => (t = 0 ∧ vp_in i n) ∧ K pc L st sh (mv_up M a i.toNatClampNeg x) c s)
def mv_kbs (sh : mv_Shp) (M : mv_Mem) (a : Nat) (i x : Int32) (K : mv_Kt) (pc : Nat) (L : mv_Loc) (st : List Value) (c s : Nat) : Prop := mv_nums sh a (fun t n => ((t = 1 ∧ x.toInt8.toInt32 = x ∨ t = 2 ∧ (x = 0 ∨ x = 1)) ∧ vp_in i n) ∧ K pc L st sh (mv_up M a i.toNatClampNeg x) c s)
def mv_kal0 (sh : mv_Shp) (M : mv_Mem) (a : Nat) (i : Int32) (K : mv_Kt) (pc : Nat) (L : mv_Loc) (st : List Value) (c s : Nat) : Prop := mv_refs sh a (fun t n g => (t = 3 ∧ vp_in i n) ∧ mv_some (g i.toNatClampNeg) (fun b => K pc L (.ref b :: st) sh M c s))
def mv_kas (sh : mv_Shp) (M : mv_Mem) (a : Nat) (i : Int32) (b : Nat) (K : mv_Kt) (pc : Nat) (L : mv_Loc) (st : List Value) (c s : Nat) : Prop := mv_refs sh a (fun t n g => (t = 3 ∧ vp_in i n ∧ mv_isO sh (some (.ref b)) 0) ∧ K pc L st (sh.set a (.inr (.inr (t, n, va_up g i.toNatClampNeg (some b))))) M c s)
def mv_kln (sh : mv_Shp) (M : mv_Mem) (a : Nat) (K : mv_Kt) (pc : Nat) (L : mv_Loc) (st : List Value) (c s : Nat) : Prop := mv_nums sh a (fun t n => t < 3 ∧ K pc L (.int (nI n) :: st) sh M c s)
def mv_kcp (sh : mv_Shp) (M : mv_Mem) (a : Nat) (sp : Int32) (d : Nat) (dp n : Int32) (K : mv_Kt) (pc : Nat) (L : mv_Loc) (st : List Value) (c s : Nat) : Prop := mv_nums sh a (fun t0 n0 => mv_nums sh d (fun t1 n1 =>
    (mv_ss st ≤ 8 ∧ t0 = t1 ∧ (t0 = 0 ∨ t0 = 1 ∧ ∀ i : Nat, i < n.toNatClampNeg → (M a (sp.toNatClampNeg + i)).toInt8.toInt32 = M a (sp.toNatClampNeg + i)) ∧ ¬ sp < 0 ∧ ¬ dp < 0 ∧ ¬ n < 0 ∧ sp.toNatClampNeg + n.toNatClampNeg ≤ n0 ∧ dp.toNatClampNeg + n.toNatClampNeg ≤ n1) ∧
    K pc L st sh (mv_wr M d (va_cpy (M a) (M d) sp.toNatClampNeg dp.toNatClampNeg n.toNatClampNeg)) c s))
def mv_kcr (sh : mv_Shp) (M : mv_Mem) (a : Nat) (sp : Int32) (d : Nat) (dp n : Int32) (K : mv_Kt) (pc : Nat) (L : mv_Loc) (st : List Value) (c s : Nat) : Prop := mv_nums sh d (fun t1 n1 =>
    (mv_ss st ≤ 8 ∧ a = 1001 ∧ t1 = 1 ∧ ¬ sp < 0 ∧ ¬ dp < 0 ∧ ¬ n < 0 ∧ sp.toNatClampNeg + n.toNatClampNeg ≤ 96 ∧ dp.toNatClampNeg + n.toNatClampNeg ≤ n1) ∧
    K pc L st sh (mv_wr M d (va_cpy (fun j => mv_bytes.getD j 0) (M d) sp.toNatClampNeg dp.toNatClampNeg n.toNatClampNeg)) c s)
def mv_kal (S : Nat → mv_Sp) (j : Nat) (As : List Value) (sh : mv_Shp) (M : mv_Mem) (K : mv_Kt) (pc : Nat) (L : mv_Loc) (st : List Value) (c s : Nat) : Prop := mv_cal S j As sh M (fun v sh' M' => K pc L (v.toList ++ st) sh' M' c s)
theorem q_kal {S : Nat → mv_Sp} {j : Nat} {As : List Value} {sh sh' : mv_Shp} {M M' : mv_Mem} {r : Option Value} (h : ∀ F : mv_Post, mv_cal S j As sh M F = F r sh' M') {K : mv_Kt} {pc : Nat} {c s : Nat} : mv_kal S j As sh M K pc L st c s = K pc L (r.toList ++ st) sh' M' c s := h _
theorem q_call0 {A B C D E F : Prop} : (A ∧ B ∧ C ∧ (((0 : Nat) < 3 ∨ 4 < (0 : Nat) ∧ (0 : Nat) < 8 → D) ∧ ((0 : Nat) = 8 → E)) ∧ F) = (A ∧ B ∧ C ∧ D ∧ F) := by simp
theorem q_call1 {A B C D E F : Prop} : (A ∧ B ∧ C ∧ (((1 : Nat) < 3 ∨ 4 < (1 : Nat) ∧ (1 : Nat) < 8 → D) ∧ ((1 : Nat) = 8 → E)) ∧ F) = (A ∧ B ∧ C ∧ D ∧ F) := by simp
theorem q_call2 {A B C D E F : Prop} : (A ∧ B ∧ C ∧ (((2 : Nat) < 3 ∨ 4 < (2 : Nat) ∧ (2 : Nat) < 8 → D) ∧ ((2 : Nat) = 8 → E)) ∧ F) = (A ∧ B ∧ C ∧ D ∧ F) := by simp
theorem q_call5 {A B C D E F : Prop} : (A ∧ B ∧ C ∧ (((5 : Nat) < 3 ∨ 4 < (5 : Nat) ∧ (5 : Nat) < 8 → D) ∧ ((5 : Nat) = 8 → E)) ∧ F) = (A ∧ B ∧ C ∧ D ∧ F) := by simp
theorem q_call6 {A B C D E F : Prop} : (A ∧ B ∧ C ∧ (((6 : Nat) < 3 ∨ 4 < (6 : Nat) ∧ (6 : Nat) < 8 → D) ∧ ((6 : Nat) = 8 → E)) ∧ F) = (A ∧ B ∧ C ∧ D ∧ F) := by simp
theorem q_call3 {A B C D E F : Prop} : (A ∧ B ∧ C ∧ (((3 : Nat) < 3 ∨ 4 < (3 : Nat) ∧ (3 : Nat) < 8 → D) ∧ ((3 : Nat) = 8 → E)) ∧ F) = (A ∧ B ∧ C ∧ True ∧ F) := by simp
theorem q_call4 {A B C D E F : Prop} : (A ∧ B ∧ C ∧ (((4 : Nat) < 3 ∨ 4 < (4 : Nat) ∧ (4 : Nat) < 8 → D) ∧ ((4 : Nat) = 8 → E)) ∧ F) = (A ∧ B ∧ C ∧ True ∧ F) := by simp
theorem q_call8 {A B C D E F : Prop} : (A ∧ B ∧ C ∧ (((8 : Nat) < 3 ∨ 4 < (8 : Nat) ∧ (8 : Nat) < 8 → D) ∧ ((8 : Nat) = 8 → E)) ∧ F) = (A ∧ B ∧ C ∧ E ∧ F) := by simp
theorem q_sw1 {c1 A1 B : Prop} [Decidable c1] : ((c1 → A1) ∧ (¬ c1 → B)) = (if c1 then A1 else B) := by
  rw [q_br]
theorem q_sw2 {c1 c2 A1 A2 B : Prop} [Decidable c1] [Decidable c2] : ((c1 → A1) ∧ (¬ c1 → (c2 → A2) ∧ (¬ c2 → B))) = (if c1 then A1 else if c2 then A2 else B) := by
  rw [q_br, q_br]
theorem q_sw3 {c1 c2 c3 A1 A2 A3 B : Prop} [Decidable c1] [Decidable c2] [Decidable c3] : ((c1 → A1) ∧ (¬ c1 → (c2 → A2) ∧ (¬ c2 → (c3 → A3) ∧ (¬ c3 → B)))) = (if c1 then A1 else if c2 then A2 else if c3 then A3 else B) := by
  rw [q_br, q_br, q_br]
theorem q_sw4 {c1 c2 c3 c4 A1 A2 A3 A4 B : Prop} [Decidable c1] [Decidable c2] [Decidable c3] [Decidable c4] : ((c1 → A1) ∧ (¬ c1 → (c2 → A2) ∧ (¬ c2 → (c3 → A3) ∧ (¬ c3 → (c4 → A4) ∧ (¬ c4 → B))))) = (if c1 then A1 else if c2 then A2 else if c3 then A3 else if c4 then A4 else B) := by
  rw [q_br, q_br, q_br, q_br]
theorem q_sw5 {c1 c2 c3 c4 c5 A1 A2 A3 A4 A5 B : Prop} [Decidable c1] [Decidable c2] [Decidable c3] [Decidable c4] [Decidable c5] : ((c1 → A1) ∧ (¬ c1 → (c2 → A2) ∧ (¬ c2 → (c3 → A3) ∧ (¬ c3 → (c4 → A4) ∧ (¬ c4 → (c5 → A5) ∧ (¬ c5 → B)))))) = (if c1 then A1 else if c2 then A2 else if c3 then A3 else if c4 then A4 else if c5 then A5 else B) := by
  rw [q_br, q_br, q_br, q_br, q_br]
theorem q_sw6 {c1 c2 c3 c4 c5 c6 A1 A2 A3 A4 A5 A6 B : Prop} [Decidable c1] [Decidable c2] [Decidable c3] [Decidable c4] [Decidable c5] [Decidable c6] : ((c1 → A1) ∧ (¬ c1 → (c2 → A2) ∧ (¬ c2 → (c3 → A3) ∧ (¬ c3 → (c4 → A4) ∧ (¬ c4 → (c5 → A5) ∧ (¬ c5 → (c6 → A6) ∧ (¬ c6 → B))))))) = (if c1 then A1 else if c2 then A2 else if c3 then A3 else if c4 then A4 else if c5 then A5 else if c6 then A6 else B) := by
  rw [q_br, q_br, q_br, q_br, q_br, q_br]
theorem q_sw7 {c1 c2 c3 c4 c5 c6 c7 A1 A2 A3 A4 A5 A6 A7 B : Prop} [Decidable c1] [Decidable c2] [Decidable c3] [Decidable c4] [Decidable c5] [Decidable c6] [Decidable c7] : ((c1 → A1) ∧ (¬ c1 → (c2 → A2) ∧ (¬ c2 → (c3 → A3) ∧ (¬ c3 → (c4 → A4) ∧ (¬ c4 → (c5 → A5) ∧ (¬ c5 → (c6 → A6) ∧ (¬ c6 → (c7 → A7) ∧ (¬ c7 → B)))))))) = (if c1 then A1 else if c2 then A2 else if c3 then A3 else if c4 then A4 else if c5 then A5 else if c6 then A6 else if c7 then A7 else B) := by
  rw [q_br, q_br, q_br, q_br, q_br, q_br, q_br]
theorem q_sw8 {c1 c2 c3 c4 c5 c6 c7 c8 A1 A2 A3 A4 A5 A6 A7 A8 B : Prop} [Decidable c1] [Decidable c2] [Decidable c3] [Decidable c4] [Decidable c5] [Decidable c6] [Decidable c7] [Decidable c8] : ((c1 → A1) ∧ (¬ c1 → (c2 → A2) ∧ (¬ c2 → (c3 → A3) ∧ (¬ c3 → (c4 → A4) ∧ (¬ c4 → (c5 → A5) ∧ (¬ c5 → (c6 → A6) ∧ (¬ c6 → (c7 → A7) ∧ (¬ c7 → (c8 → A8) ∧ (¬ c8 → B))))))))) = (if c1 then A1 else if c2 then A2 else if c3 then A3 else if c4 then A4 else if c5 then A5 else if c6 then A6 else if c7 then A7 else if c8 then A8 else B) := by
  rw [q_br, q_br, q_br, q_br, q_br, q_br, q_br, q_br]
theorem q_sw9 {c1 c2 c3 c4 c5 c6 c7 c8 c9 A1 A2 A3 A4 A5 A6 A7 A8 A9 B : Prop} [Decidable c1] [Decidable c2] [Decidable c3] [Decidable c4] [Decidable c5] [Decidable c6] [Decidable c7] [Decidable c8] [Decidable c9] : ((c1 → A1) ∧ (¬ c1 → (c2 → A2) ∧ (¬ c2 → (c3 → A3) ∧ (¬ c3 → (c4 → A4) ∧ (¬ c4 → (c5 → A5) ∧ (¬ c5 → (c6 → A6) ∧ (¬ c6 → (c7 → A7) ∧ (¬ c7 → (c8 → A8) ∧ (¬ c8 → (c9 → A9) ∧ (¬ c9 → B)))))))))) = (if c1 then A1 else if c2 then A2 else if c3 then A3 else if c4 then A4 else if c5 then A5 else if c6 then A6 else if c7 then A7 else if c8 then A8 else if c9 then A9 else B) := by
  rw [q_br, q_br, q_br, q_br, q_br, q_br, q_br, q_br, q_br]
theorem q_sw10 {c1 c2 c3 c4 c5 c6 c7 c8 c9 c10 A1 A2 A3 A4 A5 A6 A7 A8 A9 A10 B : Prop} [Decidable c1] [Decidable c2] [Decidable c3] [Decidable c4] [Decidable c5] [Decidable c6] [Decidable c7] [Decidable c8] [Decidable c9] [Decidable c10] : ((c1 → A1) ∧ (¬ c1 → (c2 → A2) ∧ (¬ c2 → (c3 → A3) ∧ (¬ c3 → (c4 → A4) ∧ (¬ c4 → (c5 → A5) ∧ (¬ c5 → (c6 → A6) ∧ (¬ c6 → (c7 → A7) ∧ (¬ c7 → (c8 → A8) ∧ (¬ c8 → (c9 → A9) ∧ (¬ c9 → (c10 → A10) ∧ (¬ c10 → B))))))))))) = (if c1 then A1 else if c2 then A2 else if c3 then A3 else if c4 then A4 else if c5 then A5 else if c6 then A6 else if c7 then A7 else if c8 then A8 else if c9 then A9 else if c10 then A10 else B) := by
  rw [q_br, q_br, q_br, q_br, q_br, q_br, q_br, q_br, q_br, q_br]
theorem q_sw11 {c1 c2 c3 c4 c5 c6 c7 c8 c9 c10 c11 A1 A2 A3 A4 A5 A6 A7 A8 A9 A10 A11 B : Prop} [Decidable c1] [Decidable c2] [Decidable c3] [Decidable c4] [Decidable c5] [Decidable c6] [Decidable c7] [Decidable c8] [Decidable c9] [Decidable c10] [Decidable c11] : ((c1 → A1) ∧ (¬ c1 → (c2 → A2) ∧ (¬ c2 → (c3 → A3) ∧ (¬ c3 → (c4 → A4) ∧ (¬ c4 → (c5 → A5) ∧ (¬ c5 → (c6 → A6) ∧ (¬ c6 → (c7 → A7) ∧ (¬ c7 → (c8 → A8) ∧ (¬ c8 → (c9 → A9) ∧ (¬ c9 → (c10 → A10) ∧ (¬ c10 → (c11 → A11) ∧ (¬ c11 → B)))))))))))) = (if c1 then A1 else if c2 then A2 else if c3 then A3 else if c4 then A4 else if c5 then A5 else if c6 then A6 else if c7 then A7 else if c8 then A8 else if c9 then A9 else if c10 then A10 else if c11 then A11 else B) := by
  rw [q_br, q_br, q_br, q_br, q_br, q_br, q_br, q_br, q_br, q_br, q_br]
theorem q_kcp {sh : mv_Shp} {M : mv_Mem} {a d n0 n1 sp dp n : Nat} {K : mv_Kt} {pc c s : Nat} (h0 : sh[a]? = some (.inl (0, n0))) (h1 : sh[d]? = some (.inl (0, n1))) (b1 : sp + n ≤ n0) (b2 : dp + n ≤ n1) (b3 : n0 < 2147483648) (b4 : n1 < 2147483648) :
    mv_kcp sh M a (nI sp) d (nI dp) (nI n) K pc L st c s = (mv_ss st ≤ 8 ∧ K pc L st sh (mv_wr M d (va_cpy (M a) (M d) sp dp n)) c s) := by
  unfold mv_kcp mv_nums
  rw [h0]; dsimp only; rw [h1]; dsimp only
  rw [q_cl (a := sp) (by omega), q_cl (a := dp) (by omega), q_cl (a := n) (by omega)]
  simp only [true_and, true_or, b1, b2, and_true, nI_pos (show sp < 2 ^ 31 by omega), nI_pos (show dp < 2 ^ 31 by omega), nI_pos (show n < 2 ^ 31 by omega), not_false_eq_true]
theorem q_wrS {M : mv_Mem} {a : Nat} {g : Nat → Int32} : mv_wr M a g a = g := if_pos rfl
theorem q_wrO {M : mv_Mem} {a b : Nat} {g : Nat → Int32} (h : ¬ b = a) : mv_wr M a g b = M b := if_neg h
theorem nI_inj {a b : Nat} (h : nI a = nI b) (ha : a < 2147483648) (hb : b < 2147483648) : a = b := (nI_eq ha hb).mp h
end SIM
/-- an object of TurnedTablets$Cloth at a, its arrays behind it -/
def oC (sh : mv_Shp) (a : Nat) : Prop := sh[a]? = some (.inr (.inl (0, [some (.ref (a + 1)), some (.ref (a + 2)), none]))) ∧ sh[a + 1]? = some (.inl (0, 30)) ∧ sh[a + 2]? = some (.inl (0, 768))
section
variable {sh : mv_Shp} {M : mv_Mem} {a : Nat} {K : mv_Kt} {pc : Nat} {L : mv_Loc} {st : List Value} {c s : Nat}
theorem oC.g0 (h : oC sh a) : mv_kgf sh M a 0 0 K pc L st c s = K pc L (.ref (a + 1) :: st) sh M c s := by
  unfold mv_kgf mv_gf; rw [h.1]; simp
theorem oC.g1 (h : oC sh a) : mv_kgf sh M a 0 1 K pc L st c s = K pc L (.ref (a + 2) :: st) sh M c s := by
  unfold mv_kgf mv_gf; rw [h.1]; simp
theorem oC.g2 (h : oC sh a) : mv_kgf sh M a 0 2 K pc L st c s = K pc L (.int (M a 2) :: st) sh M c s := by
  unfold mv_kgf mv_gf; rw [h.1]; simp
theorem oC.p2 (h : oC sh a) {v : Int32} : mv_kpf sh M a 0 2 v K pc L st c s = K pc L st sh (mv_up M a 2 v) c s := by
  unfold mv_kpf mv_pf; rw [h.1]; simp
theorem oC.o (h : oC sh a) : mv_isO sh (some (.ref a)) 0 = True := by
  unfold mv_isO; dsimp only; rw [h.1]; simp
theorem oC.l1 (h : oC sh a) {i : Nat} (hi : i < 30) : mv_kld sh M (a + 1) (nI i) K pc L st c s = K pc L (.int (M (a + 1) i) :: st) sh M c s := by
  unfold mv_kld mv_nums; rw [h.2.1]; simp only [q_in hi (by decide), q_cl (show i < 2147483648 by omega), true_and]
theorem oC.s1 (h : oC sh a) {i : Nat} {x : Int32} (hi : i < 30) : mv_kst sh M (a + 1) (nI i) x K pc L st c s = K pc L st sh (mv_up M (a + 1) i x) c s := by
  unfold mv_kst mv_nums; rw [h.2.1]; simp only [q_in hi (by decide), q_cl (show i < 2147483648 by omega), true_and]
theorem oC.z1 (h : oC sh a) : sh[a + 1]? = some (.inl (0, 30)) := h.2.1
theorem oC.l2 (h : oC sh a) {i : Nat} (hi : i < 768) : mv_kld sh M (a + 2) (nI i) K pc L st c s = K pc L (.int (M (a + 2) i) :: st) sh M c s := by
  unfold mv_kld mv_nums; rw [h.2.2]; simp only [q_in hi (by decide), q_cl (show i < 2147483648 by omega), true_and]
theorem oC.s2 (h : oC sh a) {i : Nat} {x : Int32} (hi : i < 768) : mv_kst sh M (a + 2) (nI i) x K pc L st c s = K pc L st sh (mv_up M (a + 2) i x) c s := by
  unfold mv_kst mv_nums; rw [h.2.2]; simp only [q_in hi (by decide), q_cl (show i < 2147483648 by omega), true_and]
theorem oC.z2 (h : oC sh a) : sh[a + 2]? = some (.inl (0, 768)) := h.2.2
end
/-- an object of TurnedTablets$Loom at a, its arrays behind it -/
def oL (sh : mv_Shp) (a : Nat) : Prop := sh[a]? = some (.inr (.inl (1, [none, none, none, none, some (.ref (a + 1)), some (.ref (a + 2)), some (.ref (a + 3)), some (.ref (a + 4)), some (.ref (a + 5)), some (.ref (a + 6))]))) ∧ sh[a + 1]? = some (.inl (0, 6)) ∧ sh[a + 2]? = some (.inl (0, 6)) ∧ sh[a + 3]? = some (.inl (0, 24)) ∧ sh[a + 4]? = some (.inl (0, 24)) ∧ sh[a + 5]? = some (.inl (0, 6)) ∧ sh[a + 6]? = some (.inl (0, 8))
section
variable {sh : mv_Shp} {M : mv_Mem} {a : Nat} {K : mv_Kt} {pc : Nat} {L : mv_Loc} {st : List Value} {c s : Nat}
theorem oL.g0 (h : oL sh a) : mv_kgf sh M a 1 0 K pc L st c s = K pc L (.int (M a 0) :: st) sh M c s := by
  unfold mv_kgf mv_gf; rw [h.1]; simp
theorem oL.p0 (h : oL sh a) {v : Int32} : mv_kpf sh M a 1 0 v K pc L st c s = K pc L st sh (mv_up M a 0 v) c s := by
  unfold mv_kpf mv_pf; rw [h.1]; simp
theorem oL.g1 (h : oL sh a) : mv_kgf sh M a 1 1 K pc L st c s = K pc L (.int (M a 1) :: st) sh M c s := by
  unfold mv_kgf mv_gf; rw [h.1]; simp
theorem oL.p1 (h : oL sh a) {v : Int32} : mv_kpf sh M a 1 1 v K pc L st c s = K pc L st sh (mv_up M a 1 v) c s := by
  unfold mv_kpf mv_pf; rw [h.1]; simp
theorem oL.g2 (h : oL sh a) : mv_kgf sh M a 1 2 K pc L st c s = K pc L (.int (M a 2) :: st) sh M c s := by
  unfold mv_kgf mv_gf; rw [h.1]; simp
theorem oL.p2 (h : oL sh a) {v : Int32} : mv_kpf sh M a 1 2 v K pc L st c s = K pc L st sh (mv_up M a 2 v) c s := by
  unfold mv_kpf mv_pf; rw [h.1]; simp
theorem oL.g3 (h : oL sh a) : mv_kgf sh M a 1 3 K pc L st c s = K pc L (.int (M a 3) :: st) sh M c s := by
  unfold mv_kgf mv_gf; rw [h.1]; simp
theorem oL.p3 (h : oL sh a) {v : Int32} : mv_kpf sh M a 1 3 v K pc L st c s = K pc L st sh (mv_up M a 3 v) c s := by
  unfold mv_kpf mv_pf; rw [h.1]; simp
theorem oL.g4 (h : oL sh a) : mv_kgf sh M a 1 4 K pc L st c s = K pc L (.ref (a + 1) :: st) sh M c s := by
  unfold mv_kgf mv_gf; rw [h.1]; simp
theorem oL.g5 (h : oL sh a) : mv_kgf sh M a 1 5 K pc L st c s = K pc L (.ref (a + 2) :: st) sh M c s := by
  unfold mv_kgf mv_gf; rw [h.1]; simp
theorem oL.g6 (h : oL sh a) : mv_kgf sh M a 1 6 K pc L st c s = K pc L (.ref (a + 3) :: st) sh M c s := by
  unfold mv_kgf mv_gf; rw [h.1]; simp
theorem oL.g7 (h : oL sh a) : mv_kgf sh M a 1 7 K pc L st c s = K pc L (.ref (a + 4) :: st) sh M c s := by
  unfold mv_kgf mv_gf; rw [h.1]; simp
theorem oL.g8 (h : oL sh a) : mv_kgf sh M a 1 8 K pc L st c s = K pc L (.ref (a + 5) :: st) sh M c s := by
  unfold mv_kgf mv_gf; rw [h.1]; simp
theorem oL.g9 (h : oL sh a) : mv_kgf sh M a 1 9 K pc L st c s = K pc L (.ref (a + 6) :: st) sh M c s := by
  unfold mv_kgf mv_gf; rw [h.1]; simp
theorem oL.o (h : oL sh a) : mv_isO sh (some (.ref a)) 1 = True := by
  unfold mv_isO; dsimp only; rw [h.1]; simp
theorem oL.l1 (h : oL sh a) {i : Nat} (hi : i < 6) : mv_kld sh M (a + 1) (nI i) K pc L st c s = K pc L (.int (M (a + 1) i) :: st) sh M c s := by
  unfold mv_kld mv_nums; rw [h.2.1]; simp only [q_in hi (by decide), q_cl (show i < 2147483648 by omega), true_and]
theorem oL.s1 (h : oL sh a) {i : Nat} {x : Int32} (hi : i < 6) : mv_kst sh M (a + 1) (nI i) x K pc L st c s = K pc L st sh (mv_up M (a + 1) i x) c s := by
  unfold mv_kst mv_nums; rw [h.2.1]; simp only [q_in hi (by decide), q_cl (show i < 2147483648 by omega), true_and]
theorem oL.z1 (h : oL sh a) : sh[a + 1]? = some (.inl (0, 6)) := h.2.1
theorem oL.l2 (h : oL sh a) {i : Nat} (hi : i < 6) : mv_kld sh M (a + 2) (nI i) K pc L st c s = K pc L (.int (M (a + 2) i) :: st) sh M c s := by
  unfold mv_kld mv_nums; rw [h.2.2.1]; simp only [q_in hi (by decide), q_cl (show i < 2147483648 by omega), true_and]
theorem oL.s2 (h : oL sh a) {i : Nat} {x : Int32} (hi : i < 6) : mv_kst sh M (a + 2) (nI i) x K pc L st c s = K pc L st sh (mv_up M (a + 2) i x) c s := by
  unfold mv_kst mv_nums; rw [h.2.2.1]; simp only [q_in hi (by decide), q_cl (show i < 2147483648 by omega), true_and]
theorem oL.z2 (h : oL sh a) : sh[a + 2]? = some (.inl (0, 6)) := h.2.2.1
theorem oL.l3 (h : oL sh a) {i : Nat} (hi : i < 24) : mv_kld sh M (a + 3) (nI i) K pc L st c s = K pc L (.int (M (a + 3) i) :: st) sh M c s := by
  unfold mv_kld mv_nums; rw [h.2.2.2.1]; simp only [q_in hi (by decide), q_cl (show i < 2147483648 by omega), true_and]
theorem oL.s3 (h : oL sh a) {i : Nat} {x : Int32} (hi : i < 24) : mv_kst sh M (a + 3) (nI i) x K pc L st c s = K pc L st sh (mv_up M (a + 3) i x) c s := by
  unfold mv_kst mv_nums; rw [h.2.2.2.1]; simp only [q_in hi (by decide), q_cl (show i < 2147483648 by omega), true_and]
theorem oL.z3 (h : oL sh a) : sh[a + 3]? = some (.inl (0, 24)) := h.2.2.2.1
theorem oL.l4 (h : oL sh a) {i : Nat} (hi : i < 24) : mv_kld sh M (a + 4) (nI i) K pc L st c s = K pc L (.int (M (a + 4) i) :: st) sh M c s := by
  unfold mv_kld mv_nums; rw [h.2.2.2.2.1]; simp only [q_in hi (by decide), q_cl (show i < 2147483648 by omega), true_and]
theorem oL.s4 (h : oL sh a) {i : Nat} {x : Int32} (hi : i < 24) : mv_kst sh M (a + 4) (nI i) x K pc L st c s = K pc L st sh (mv_up M (a + 4) i x) c s := by
  unfold mv_kst mv_nums; rw [h.2.2.2.2.1]; simp only [q_in hi (by decide), q_cl (show i < 2147483648 by omega), true_and]
theorem oL.z4 (h : oL sh a) : sh[a + 4]? = some (.inl (0, 24)) := h.2.2.2.2.1
theorem oL.l5 (h : oL sh a) {i : Nat} (hi : i < 6) : mv_kld sh M (a + 5) (nI i) K pc L st c s = K pc L (.int (M (a + 5) i) :: st) sh M c s := by
  unfold mv_kld mv_nums; rw [h.2.2.2.2.2.1]; simp only [q_in hi (by decide), q_cl (show i < 2147483648 by omega), true_and]
theorem oL.s5 (h : oL sh a) {i : Nat} {x : Int32} (hi : i < 6) : mv_kst sh M (a + 5) (nI i) x K pc L st c s = K pc L st sh (mv_up M (a + 5) i x) c s := by
  unfold mv_kst mv_nums; rw [h.2.2.2.2.2.1]; simp only [q_in hi (by decide), q_cl (show i < 2147483648 by omega), true_and]
theorem oL.z5 (h : oL sh a) : sh[a + 5]? = some (.inl (0, 6)) := h.2.2.2.2.2.1
theorem oL.l6 (h : oL sh a) {i : Nat} (hi : i < 8) : mv_kld sh M (a + 6) (nI i) K pc L st c s = K pc L (.int (M (a + 6) i) :: st) sh M c s := by
  unfold mv_kld mv_nums; rw [h.2.2.2.2.2.2]; simp only [q_in hi (by decide), q_cl (show i < 2147483648 by omega), true_and]
theorem oL.s6 (h : oL sh a) {i : Nat} {x : Int32} (hi : i < 8) : mv_kst sh M (a + 6) (nI i) x K pc L st c s = K pc L st sh (mv_up M (a + 6) i x) c s := by
  unfold mv_kst mv_nums; rw [h.2.2.2.2.2.2]; simp only [q_in hi (by decide), q_cl (show i < 2147483648 by omega), true_and]
theorem oL.z6 (h : oL sh a) : sh[a + 6]? = some (.inl (0, 8)) := h.2.2.2.2.2.2
end
/-- an object of TurnedTablets$Search at a, its arrays behind it -/
def oS (sh : mv_Shp) (a : Nat) : Prop := sh[a]? = some (.inr (.inl (3, [some (.ref (a + 1)), some (.ref (a + 2)), some (.ref (a + 3)), none]))) ∧ sh[a + 1]? = some (.inl (0, 4096)) ∧ sh[a + 2]? = some (.inl (0, 4096)) ∧ sh[a + 3]? = some (.inl (0, 12))
section
variable {sh : mv_Shp} {M : mv_Mem} {a : Nat} {K : mv_Kt} {pc : Nat} {L : mv_Loc} {st : List Value} {c s : Nat}
theorem oS.g0 (h : oS sh a) : mv_kgf sh M a 3 0 K pc L st c s = K pc L (.ref (a + 1) :: st) sh M c s := by
  unfold mv_kgf mv_gf; rw [h.1]; simp
theorem oS.g1 (h : oS sh a) : mv_kgf sh M a 3 1 K pc L st c s = K pc L (.ref (a + 2) :: st) sh M c s := by
  unfold mv_kgf mv_gf; rw [h.1]; simp
theorem oS.g2 (h : oS sh a) : mv_kgf sh M a 3 2 K pc L st c s = K pc L (.ref (a + 3) :: st) sh M c s := by
  unfold mv_kgf mv_gf; rw [h.1]; simp
theorem oS.g3 (h : oS sh a) : mv_kgf sh M a 3 3 K pc L st c s = K pc L (.int (M a 3) :: st) sh M c s := by
  unfold mv_kgf mv_gf; rw [h.1]; simp
theorem oS.p3 (h : oS sh a) {v : Int32} : mv_kpf sh M a 3 3 v K pc L st c s = K pc L st sh (mv_up M a 3 v) c s := by
  unfold mv_kpf mv_pf; rw [h.1]; simp
theorem oS.o (h : oS sh a) : mv_isO sh (some (.ref a)) 3 = True := by
  unfold mv_isO; dsimp only; rw [h.1]; simp
theorem oS.l1 (h : oS sh a) {i : Nat} (hi : i < 4096) : mv_kld sh M (a + 1) (nI i) K pc L st c s = K pc L (.int (M (a + 1) i) :: st) sh M c s := by
  unfold mv_kld mv_nums; rw [h.2.1]; simp only [q_in hi (by decide), q_cl (show i < 2147483648 by omega), true_and]
theorem oS.s1 (h : oS sh a) {i : Nat} {x : Int32} (hi : i < 4096) : mv_kst sh M (a + 1) (nI i) x K pc L st c s = K pc L st sh (mv_up M (a + 1) i x) c s := by
  unfold mv_kst mv_nums; rw [h.2.1]; simp only [q_in hi (by decide), q_cl (show i < 2147483648 by omega), true_and]
theorem oS.z1 (h : oS sh a) : sh[a + 1]? = some (.inl (0, 4096)) := h.2.1
theorem oS.l2 (h : oS sh a) {i : Nat} (hi : i < 4096) : mv_kld sh M (a + 2) (nI i) K pc L st c s = K pc L (.int (M (a + 2) i) :: st) sh M c s := by
  unfold mv_kld mv_nums; rw [h.2.2.1]; simp only [q_in hi (by decide), q_cl (show i < 2147483648 by omega), true_and]
theorem oS.s2 (h : oS sh a) {i : Nat} {x : Int32} (hi : i < 4096) : mv_kst sh M (a + 2) (nI i) x K pc L st c s = K pc L st sh (mv_up M (a + 2) i x) c s := by
  unfold mv_kst mv_nums; rw [h.2.2.1]; simp only [q_in hi (by decide), q_cl (show i < 2147483648 by omega), true_and]
theorem oS.z2 (h : oS sh a) : sh[a + 2]? = some (.inl (0, 4096)) := h.2.2.1
theorem oS.l3 (h : oS sh a) {i : Nat} (hi : i < 12) : mv_kld sh M (a + 3) (nI i) K pc L st c s = K pc L (.int (M (a + 3) i) :: st) sh M c s := by
  unfold mv_kld mv_nums; rw [h.2.2.2]; simp only [q_in hi (by decide), q_cl (show i < 2147483648 by omega), true_and]
theorem oS.s3 (h : oS sh a) {i : Nat} {x : Int32} (hi : i < 12) : mv_kst sh M (a + 3) (nI i) x K pc L st c s = K pc L st sh (mv_up M (a + 3) i x) c s := by
  unfold mv_kst mv_nums; rw [h.2.2.2]; simp only [q_in hi (by decide), q_cl (show i < 2147483648 by omega), true_and]
theorem oS.z3 (h : oS sh a) : sh[a + 3]? = some (.inl (0, 12)) := h.2.2.2
end
/-- the whole of the class under test: its object at 0, its parts behind it -/
def oX (sh : mv_Shp) : Prop := sh[0]? = some (.inr (.inl (4, [some (.ref 1), some (.ref 3), some (.ref 10), some (.ref 18), some (.ref 21), some (.ref 24), none, none, some (.ref 49), none, some (.ref 56), none, some (.ref 57)]))) ∧ sh[1]? = some (.inr (.inl (6, [some (.ref 61), none, none, none]))) ∧ sh[61]? = some (.inl (1, 96)) ∧ oL sh 3 ∧ sh[10]? = some (.inr (.inl (2, [some (.ref 1), some (.ref 11), none]))) ∧ oL sh 11 ∧ oC sh 18 ∧ oC sh 21 ∧ (∃ g : Nat → Option Nat, sh[24]? = some (.inr (.inr (3, 8, g))) ∧ ∀ i, i < 8 → g i = some (25 + 3 * i)) ∧ (∀ i, i < 8 → oC sh (25 + 3 * i)) ∧ (∃ g : Nat → Option Nat, sh[49]? = some (.inr (.inr (3, 2, g))) ∧ ∀ i, i < 2 → g i = some (50 + 3 * i)) ∧ (∀ i, i < 2 → oC sh (50 + 3 * i)) ∧ sh[56]? = some (.inl (0, 6)) ∧ oS sh 57
section
variable {sh : mv_Shp} {M : mv_Mem} {K : mv_Kt} {pc : Nat} {L : mv_Loc} {st : List Value} {c s : Nat}
theorem oX.g0 (h : oX sh) : mv_kgf sh M 0 4 0 K pc L st c s = K pc L (.ref 1 :: st) sh M c s := by
  unfold mv_kgf mv_gf; rw [h.1]; simp
theorem oX.g1 (h : oX sh) : mv_kgf sh M 0 4 1 K pc L st c s = K pc L (.ref 3 :: st) sh M c s := by
  unfold mv_kgf mv_gf; rw [h.1]; simp
theorem oX.g2 (h : oX sh) : mv_kgf sh M 0 4 2 K pc L st c s = K pc L (.ref 10 :: st) sh M c s := by
  unfold mv_kgf mv_gf; rw [h.1]; simp
theorem oX.g3 (h : oX sh) : mv_kgf sh M 0 4 3 K pc L st c s = K pc L (.ref 18 :: st) sh M c s := by
  unfold mv_kgf mv_gf; rw [h.1]; simp
theorem oX.g4 (h : oX sh) : mv_kgf sh M 0 4 4 K pc L st c s = K pc L (.ref 21 :: st) sh M c s := by
  unfold mv_kgf mv_gf; rw [h.1]; simp
theorem oX.g5 (h : oX sh) : mv_kgf sh M 0 4 5 K pc L st c s = K pc L (.ref 24 :: st) sh M c s := by
  unfold mv_kgf mv_gf; rw [h.1]; simp
theorem oX.g6 (h : oX sh) : mv_kgf sh M 0 4 6 K pc L st c s = K pc L (.int (M 0 6) :: st) sh M c s := by
  unfold mv_kgf mv_gf; rw [h.1]; simp
theorem oX.p6 (h : oX sh) {v : Int32} : mv_kpf sh M 0 4 6 v K pc L st c s = K pc L st sh (mv_up M 0 6 v) c s := by
  unfold mv_kpf mv_pf; rw [h.1]; simp
theorem oX.g7 (h : oX sh) : mv_kgf sh M 0 4 7 K pc L st c s = K pc L (.int (M 0 7) :: st) sh M c s := by
  unfold mv_kgf mv_gf; rw [h.1]; simp
theorem oX.p7 (h : oX sh) {v : Int32} : mv_kpf sh M 0 4 7 v K pc L st c s = K pc L st sh (mv_up M 0 7 v) c s := by
  unfold mv_kpf mv_pf; rw [h.1]; simp
theorem oX.g8 (h : oX sh) : mv_kgf sh M 0 4 8 K pc L st c s = K pc L (.ref 49 :: st) sh M c s := by
  unfold mv_kgf mv_gf; rw [h.1]; simp
theorem oX.g9 (h : oX sh) : mv_kgf sh M 0 4 9 K pc L st c s = K pc L (.int (M 0 9) :: st) sh M c s := by
  unfold mv_kgf mv_gf; rw [h.1]; simp
theorem oX.p9 (h : oX sh) {v : Int32} : mv_kpf sh M 0 4 9 v K pc L st c s = K pc L st sh (mv_up M 0 9 v) c s := by
  unfold mv_kpf mv_pf; rw [h.1]; simp
theorem oX.g10 (h : oX sh) : mv_kgf sh M 0 4 10 K pc L st c s = K pc L (.ref 56 :: st) sh M c s := by
  unfold mv_kgf mv_gf; rw [h.1]; simp
theorem oX.g11 (h : oX sh) : mv_kgf sh M 0 4 11 K pc L st c s = K pc L (.int (M 0 11) :: st) sh M c s := by
  unfold mv_kgf mv_gf; rw [h.1]; simp
theorem oX.p11 (h : oX sh) {v : Int32} : mv_kpf sh M 0 4 11 v K pc L st c s = K pc L st sh (mv_up M 0 11 v) c s := by
  unfold mv_kpf mv_pf; rw [h.1]; simp
theorem oX.g12 (h : oX sh) : mv_kgf sh M 0 4 12 K pc L st c s = K pc L (.ref 57 :: st) sh M c s := by
  unfold mv_kgf mv_gf; rw [h.1]; simp
theorem oX.o (h : oX sh) : mv_isO sh (some (.ref 0)) 4 = True := by
  unfold mv_isO; dsimp only; rw [h.1]; simp
theorem oX.o1 (h : oX sh) : mv_isO sh (some (.ref 1)) 6 = True := by
  unfold mv_isO; dsimp only; rw [h.2.1]; simp
theorem oX.o10 (h : oX sh) : mv_isO sh (some (.ref 10)) 2 = True := by
  unfold mv_isO; dsimp only; rw [h.2.2.2.2.1]; simp
theorem oX.b0 (h : oX sh) : mv_kgf sh M 1 6 0 K pc L st c s = K pc L (.ref 61 :: st) sh M c s := by
  unfold mv_kgf mv_gf; rw [h.2.1]; simp
theorem oX.b1 (h : oX sh) : mv_kgf sh M 1 6 1 K pc L st c s = K pc L (.int (M 1 1) :: st) sh M c s := by
  unfold mv_kgf mv_gf; rw [h.2.1]; simp
theorem oX.bp1 (h : oX sh) {v : Int32} : mv_kpf sh M 1 6 1 v K pc L st c s = K pc L st sh (mv_up M 1 1 v) c s := by
  unfold mv_kpf mv_pf; rw [h.2.1]; simp
theorem oX.b2 (h : oX sh) : mv_kgf sh M 1 6 2 K pc L st c s = K pc L (.int (M 1 2) :: st) sh M c s := by
  unfold mv_kgf mv_gf; rw [h.2.1]; simp
theorem oX.bp2 (h : oX sh) {v : Int32} : mv_kpf sh M 1 6 2 v K pc L st c s = K pc L st sh (mv_up M 1 2 v) c s := by
  unfold mv_kpf mv_pf; rw [h.2.1]; simp
theorem oX.b3 (h : oX sh) : mv_kgf sh M 1 6 3 K pc L st c s = K pc L (.int (M 1 3) :: st) sh M c s := by
  unfold mv_kgf mv_gf; rw [h.2.1]; simp
theorem oX.bp3 (h : oX sh) {v : Int32} : mv_kpf sh M 1 6 3 v K pc L st c s = K pc L st sh (mv_up M 1 3 v) c s := by
  unfold mv_kpf mv_pf; rw [h.2.1]; simp
theorem oX.r0 (h : oX sh) : mv_kgf sh M 10 2 0 K pc L st c s = K pc L (.ref 1 :: st) sh M c s := by
  unfold mv_kgf mv_gf; rw [h.2.2.2.2.1]; simp
theorem oX.r1 (h : oX sh) : mv_kgf sh M 10 2 1 K pc L st c s = K pc L (.ref 11 :: st) sh M c s := by
  unfold mv_kgf mv_gf; rw [h.2.2.2.2.1]; simp
theorem oX.r2 (h : oX sh) : mv_kgf sh M 10 2 2 K pc L st c s = K pc L (.int (M 10 2) :: st) sh M c s := by
  unfold mv_kgf mv_gf; rw [h.2.2.2.2.1]; simp
theorem oX.rp2 (h : oX sh) {v : Int32} : mv_kpf sh M 10 2 2 v K pc L st c s = K pc L st sh (mv_up M 10 2 v) c s := by
  unfold mv_kpf mv_pf; rw [h.2.2.2.2.1]; simp
theorem oX.loom (h : oX sh) : oL sh 3 := h.2.2.2.1
theorem oX.told (h : oX sh) : oL sh 11 := h.2.2.2.2.2.1
theorem oX.cloth (h : oX sh) : oC sh 18 := h.2.2.2.2.2.2.1
theorem oX.trial (h : oX sh) : oC sh 21 := h.2.2.2.2.2.2.2.1
theorem oX.und (h : oX sh) {i : Nat} (hi : i < 8) : oC sh (25 + 3 * i) := h.2.2.2.2.2.2.2.2.2.1 i hi
theorem oX.kep (h : oX sh) {i : Nat} (hi : i < 2) : oC sh (50 + 3 * i) := h.2.2.2.2.2.2.2.2.2.2.2.1 i hi
theorem oX.seen (h : oX sh) : sh[56]? = some (.inl (0, 6)) := h.2.2.2.2.2.2.2.2.2.2.2.2.1
theorem oX.sea (h : oX sh) : oS sh 57 := h.2.2.2.2.2.2.2.2.2.2.2.2.2
theorem oX.u (h : oX sh) {i : Nat} (hi : i < 8) : mv_kal0 sh M 24 (nI i) K pc L st c s = K pc L (.ref (25 + 3 * i) :: st) sh M c s := by
  obtain ⟨g, h1, h2⟩ := h.2.2.2.2.2.2.2.2.1
  unfold mv_kal0 mv_refs; rw [h1]; dsimp only; rw [q_cl (show i < 2147483648 by omega), h2 i hi, q_in hi (by decide)]; simp [mv_some]
theorem oX.k (h : oX sh) {i : Nat} (hi : i < 2) : mv_kal0 sh M 49 (nI i) K pc L st c s = K pc L (.ref (50 + 3 * i) :: st) sh M c s := by
  obtain ⟨g, h1, h2⟩ := h.2.2.2.2.2.2.2.2.2.2.1
  unfold mv_kal0 mv_refs; rw [h1]; dsimp only; rw [q_cl (show i < 2147483648 by omega), h2 i hi, q_in hi (by decide)]; simp [mv_some]
theorem oX.l56 (h : oX sh) {i : Nat} (hi : i < 6) : mv_kld sh M 56 (nI i) K pc L st c s = K pc L (.int (M 56 i) :: st) sh M c s := by
  unfold mv_kld mv_nums; rw [h.seen]; simp only [q_in hi (by decide), q_cl (show i < 2147483648 by omega), true_and]
theorem oX.s56 (h : oX sh) {i : Nat} {x : Int32} (hi : i < 6) : mv_kst sh M 56 (nI i) x K pc L st c s = K pc L st sh (mv_up M 56 i x) c s := by
  unfold mv_kst mv_nums; rw [h.seen]; simp only [q_in hi (by decide), q_cl (show i < 2147483648 by omega), true_and]
end
