/-! the step is monotone in what comes behind it -/
theorem mv_ldI_mono {f g : Int32 → Prop} (h : ∀ v, f v → g v) : ∀ (L : mv_Loc) (i : Nat), mv_ldI L i f → mv_ldI L i g
  | [], _, z => by simp [mv_ldI] at z
  | some (.int v) :: _, 0, z => h v z
  | x :: L, i + 1, z => by
    have z : mv_ldI L i f := by cases x with
      | none => exact z
      | some v => cases v <;> exact z
    have := mv_ldI_mono h L i z
    cases x with
    | none => exact this
    | some v => cases v <;> exact this
  | none :: _, 0, z => z.elim
  | some (.long _) :: _, 0, z => z.elim
  | some (.float _) :: _, 0, z => z.elim
  | some (.double _) :: _, 0, z => z.elim
  | some .null :: _, 0, z => z.elim
  | some (.ref _) :: _, 0, z => z.elim
  | some (.retAddr _) :: _, 0, z => z.elim
theorem mv_ldI_iff {f : Int32 → Prop} : ∀ (L : mv_Loc) (i : Nat), mv_ldI L i f ↔ ∃ v, L[i]? = some (some (.int v)) ∧ f v
  | [], i => by simp [mv_ldI]
  | x :: L, 0 => by
    rcases x with _ | v
    · simp [mv_ldI]
    · cases v <;> simp [mv_ldI]
  | x :: L, i + 1 => by
    rw [List.getElem?_cons_succ, ← mv_ldI_iff L i]
    rcases x with _ | v
    · rfl
    · cases v <;> rfl
theorem mv_ldL_iff {f : Int64 → Prop} : ∀ (L : mv_Loc) (i : Nat), mv_ldL L i f ↔ ∃ v, L[i]? = some (some (.long v)) ∧ f v
  | [], i => by simp [mv_ldL]
  | x :: L, 0 => by
    rcases x with _ | v
    · simp [mv_ldL]
    · cases v <;> simp [mv_ldL]
  | x :: L, i + 1 => by
    rw [List.getElem?_cons_succ, ← mv_ldL_iff L i]
    rcases x with _ | v
    · rfl
    · cases v <;> rfl
theorem mv_ldA_iff {f : Nat → Prop} : ∀ (L : mv_Loc) (i : Nat), mv_ldA L i f ↔ ∃ v, L[i]? = some (some (.ref v)) ∧ f v
  | [], i => by simp [mv_ldA]
  | x :: L, 0 => by
    rcases x with _ | v
    · simp [mv_ldA]
    · cases v <;> simp [mv_ldA]
  | x :: L, i + 1 => by
    rw [List.getElem?_cons_succ, ← mv_ldA_iff L i]
    rcases x with _ | v
    · rfl
    · cases v <;> rfl
theorem mv_ldL_mono {f g : Int64 → Prop} (h : ∀ v, f v → g v) (L : mv_Loc) (i : Nat) : mv_ldL L i f → mv_ldL L i g := by
  rw [mv_ldL_iff, mv_ldL_iff]; exact fun ⟨v, a, b⟩ => ⟨v, a, h v b⟩
theorem mv_ldA_mono {f g : Nat → Prop} (h : ∀ v, f v → g v) (L : mv_Loc) (i : Nat) : mv_ldA L i f → mv_ldA L i g := by
  rw [mv_ldA_iff, mv_ldA_iff]; exact fun ⟨v, a, b⟩ => ⟨v, a, h v b⟩
/-- a store: what was asked, and the new locals -/
theorem mv_stA_iff {v : Value} : ∀ (L : mv_Loc) (i : Nat) {f : mv_Loc → Prop}, mv_stA L i v f ↔ (i < L.length ∧ (∀ j w, i = j + 1 → L[j]? ≠ some (some (.long w)))) ∧ f (L.set i (some v))
  | [], i, f => by simp [mv_stA]
  | x :: L, 0, f => by
    have : mv_stA (x :: L) 0 v f = f (some v :: L) := by
      rcases x with _ | y
      · rfl
      · cases y <;> rfl
    rw [this]; simp
  | x :: L, 1, f => by
    by_cases hx : ∃ w, x = some (.long w)
    · obtain ⟨w, rfl⟩ := hx
      constructor
      · intro z; exact z.elim
      · intro z; exact absurd rfl (z.1.2 0 w rfl)
    · have : mv_stA (x :: L) 1 v f = mv_stA L 0 v (fun L' => f (x :: L')) := by
        rcases x with _ | y
        · rfl
        · cases y <;> first | rfl | exact absurd ⟨_, rfl⟩ hx
      rw [this, mv_stA_iff L 0]
      constructor
      · rintro ⟨⟨a, -⟩, b⟩
        refine ⟨⟨by simpa using a, fun j w hj => ?_⟩, b⟩
        have : j = 0 := by omega
        subst this
        simp only [List.getElem?_cons_zero, ne_eq, Option.some.injEq]
        exact fun h => hx ⟨w, h⟩
      · rintro ⟨⟨a, -⟩, b⟩
        exact ⟨⟨by simpa using a, fun j w hj => by omega⟩, b⟩
  | x :: L, i + 2, f => by
    have : mv_stA (x :: L) (i + 2) v f = mv_stA L (i + 1) v (fun L' => f (x :: L')) := by
      rcases x with _ | y
      · rfl
      · cases y <;> rfl
    rw [this, mv_stA_iff L (i + 1)]
    constructor
    · rintro ⟨⟨a, a2⟩, b⟩
      refine ⟨⟨by simp only [List.length_cons]; omega, fun j w hj => ?_⟩, b⟩
      obtain ⟨k, rfl⟩ : ∃ k, j = k + 1 := ⟨j - 1, by omega⟩
      rw [List.getElem?_cons_succ]
      exact a2 k w (by omega)
    · rintro ⟨⟨a, a2⟩, b⟩
      refine ⟨⟨by simp only [List.length_cons] at a; omega, fun j w hj => ?_⟩, b⟩
      have := a2 (j + 1) w (by omega)
      rwa [List.getElem?_cons_succ] at this
theorem mv_stA_mono {v : Value} {f g : mv_Loc → Prop} (h : ∀ v, f v → g v) (L : mv_Loc) (i : Nat) : mv_stA L i v f → mv_stA L i v g := by
  rw [mv_stA_iff, mv_stA_iff]; exact fun ⟨a, b⟩ => ⟨a, h _ b⟩
theorem mv_stL_iff {v : Value} : ∀ (L : mv_Loc) (i : Nat) {f : mv_Loc → Prop}, mv_stL L i v f ↔ (i + 1 < L.length ∧ (∀ j w, i = j + 1 → L[j]? ≠ some (some (.long w)))) ∧ f ((L.set i (some v)).set (i + 1) none)
  | [], i, f => by simp [mv_stL]
  | [x], 0, f => by
    have : mv_stL [x] 0 v f = False := by
      rcases x with _ | y
      · rfl
      · cases y <;> rfl
    rw [this]; simp
  | x :: y :: L, 0, f => by
    have : mv_stL (x :: y :: L) 0 v f = f (some v :: none :: L) := by
      rcases x with _ | y
      · rfl
      · cases y <;> rfl
    rw [this]; simp
  | x :: L, 1, f => by
    by_cases hx : ∃ w, x = some (.long w)
    · obtain ⟨w, rfl⟩ := hx
      constructor
      · intro z; exact z.elim
      · intro z; exact absurd rfl (z.1.2 0 w rfl)
    · have : mv_stL (x :: L) 1 v f = mv_stL L 0 v (fun L' => f (x :: L')) := by
        rcases x with _ | y
        · rfl
        · cases y <;> first | rfl | exact absurd ⟨_, rfl⟩ hx
      rw [this, mv_stL_iff L 0]
      constructor
      · rintro ⟨⟨a, -⟩, b⟩
        refine ⟨⟨by simp only [List.length_cons]; omega, fun j w hj => ?_⟩, b⟩
        have : j = 0 := by omega
        subst this
        simp only [List.getElem?_cons_zero, ne_eq, Option.some.injEq]
        exact fun h => hx ⟨w, h⟩
      · rintro ⟨⟨a, -⟩, b⟩
        exact ⟨⟨by simp only [List.length_cons] at a; omega, fun j w hj => by omega⟩, b⟩
  | x :: L, i + 2, f => by
    have : mv_stL (x :: L) (i + 2) v f = mv_stL L (i + 1) v (fun L' => f (x :: L')) := by
      rcases x with _ | y
      · rfl
      · cases y <;> rfl
    rw [this, mv_stL_iff L (i + 1)]
    constructor
    · rintro ⟨⟨a, a2⟩, b⟩
      refine ⟨⟨by simp only [List.length_cons]; omega, fun j w hj => ?_⟩, b⟩
      obtain ⟨k, rfl⟩ : ∃ k, j = k + 1 := ⟨j - 1, by omega⟩
      rw [List.getElem?_cons_succ]
      exact a2 k w (by omega)
    · rintro ⟨⟨a, a2⟩, b⟩
      refine ⟨⟨by simp only [List.length_cons] at a; omega, fun j w hj => ?_⟩, b⟩
      have := a2 (j + 1) w (by omega)
      rwa [List.getElem?_cons_succ] at this
theorem mv_stL_mono {v : Value} {f g : mv_Loc → Prop} (h : ∀ v, f v → g v) (L : mv_Loc) (i : Nat) : mv_stL L i v f → mv_stL L i v g := by
  rw [mv_stL_iff, mv_stL_iff]; exact fun ⟨a, b⟩ => ⟨a, h _ b⟩
theorem mv_pI_iff {st : List Value} {f : Int32 → List Value → Prop} : mv_pI st f ↔ ∃ v r, st = .int v :: r ∧ f v r := by
  unfold mv_pI; split
  · simp
  · rename_i h; exact ⟨fun z => z.elim, fun ⟨v, r, e, _⟩ => h v r e⟩
theorem mv_pA_iff {st : List Value} {f : Nat → List Value → Prop} : mv_pA st f ↔ ∃ v r, st = .ref v :: r ∧ f v r := by
  unfold mv_pA; split
  · simp
  · rename_i h; exact ⟨fun z => z.elim, fun ⟨v, r, e, _⟩ => h v r e⟩
theorem mv_pL_iff {st : List Value} {f : Int64 → List Value → Prop} : mv_pL st f ↔ ∃ v r, st = .long v :: r ∧ f v r := by
  unfold mv_pL; split
  · simp
  · rename_i h; exact ⟨fun z => z.elim, fun ⟨v, r, e, _⟩ => h v r e⟩
theorem mv_pV_out {st : List Value} {f : Value → List Value → Prop} (h : mv_pV st f) : ∃ v r, st = v :: r ∧ v.category = 1 ∧ ((∃ x, v = .int x) ∨ (∃ a, v = .ref a) ∨ v = .null) ∧ f v r := by
  unfold mv_pV at h; split at h
  · exact ⟨_, _, rfl, rfl, Or.inl ⟨_, rfl⟩, h⟩
  · exact ⟨_, _, rfl, rfl, Or.inr (Or.inl ⟨_, rfl⟩), h⟩
  · exact ⟨_, _, rfl, rfl, Or.inr (Or.inr rfl), h⟩
  · exact h.elim
theorem mv_pI_mono {st : List Value} {f g : Int32 → List Value → Prop} (h : ∀ v r, f v r → g v r) : mv_pI st f → mv_pI st g := by
  rw [mv_pI_iff, mv_pI_iff]; exact fun ⟨v, r, a, b⟩ => ⟨v, r, a, h _ _ b⟩
theorem mv_pA_mono {st : List Value} {f g : Nat → List Value → Prop} (h : ∀ v r, f v r → g v r) : mv_pA st f → mv_pA st g := by
  rw [mv_pA_iff, mv_pA_iff]; exact fun ⟨v, r, a, b⟩ => ⟨v, r, a, h _ _ b⟩
theorem mv_pL_mono {st : List Value} {f g : Int64 → List Value → Prop} (h : ∀ v r, f v r → g v r) : mv_pL st f → mv_pL st g := by
  rw [mv_pL_iff, mv_pL_iff]; exact fun ⟨v, r, a, b⟩ => ⟨v, r, a, h _ _ b⟩
theorem mv_pV_mono {st : List Value} {f g : Value → List Value → Prop} (h : ∀ v r, f v r → g v r) : mv_pV st f → mv_pV st g := by
  unfold mv_pV; split
  · exact h _ _
  · exact h _ _
  · exact h _ _
  · exact id
theorem mv_tk_iff {f : List Value → List Value → Prop} : ∀ (n : Nat) (acc st : List Value), mv_tk n acc st f ↔ ∃ a r, st = a.reverse ++ r ∧ a.length = n ∧ f (a ++ acc) r
  | 0, acc, st => by
    constructor
    · intro h; exact ⟨[], st, rfl, rfl, h⟩
    · rintro ⟨a, r, h1, h2, h3⟩
      have : a = [] := List.eq_nil_of_length_eq_zero h2
      subst this
      simp only [List.reverse_nil, List.nil_append] at h1 h3
      subst h1; exact h3
  | n + 1, acc, [] => by
    constructor
    · intro h; exact h.elim
    · rintro ⟨a, r, h1, h2, h3⟩
      have := congrArg List.length h1
      simp at this
      omega
  | n + 1, acc, v :: st => by
    show mv_tk n (v :: acc) st f ↔ _
    rw [mv_tk_iff n]
    constructor
    · rintro ⟨a, r, h1, h2, h3⟩
      exact ⟨a ++ [v], r, by rw [h1]; simp, by simp [h2], by simpa using h3⟩
    · rintro ⟨a, r, h1, h2, h3⟩
      rcases List.eq_nil_or_concat a with rfl | ⟨b, w, rfl⟩
      · simp at h2
      · simp only [List.concat_eq_append, List.reverse_append, List.reverse_cons, List.reverse_nil, List.nil_append, List.cons_append, List.cons.injEq] at h1
        obtain ⟨rfl, h1⟩ := h1
        refine ⟨b, r, h1, by simpa using h2, by simpa using h3⟩
theorem mv_tk_mono {f g : List Value → List Value → Prop} (h : ∀ v r, f v r → g v r) {n : Nat} {acc st : List Value} : mv_tk n acc st f → mv_tk n acc st g := by
  rw [mv_tk_iff, mv_tk_iff]; exact fun ⟨v, r, a, b, c⟩ => ⟨v, r, a, b, h _ _ c⟩
theorem mv_gf_mono {sh : mv_Shp} {M : mv_Mem} {a ci j : Nat} {f g : Value → Prop} (h : ∀ v, f v → g v) : mv_gf sh M a ci j f → mv_gf sh M a ci j g := by
  unfold mv_gf; split
  · refine And.imp_right ?_
    split
    · exact h _
    · exact h _
    · exact id
  · exact id
theorem mv_pf_mono {sh : mv_Shp} {M : mv_Mem} {a ci j : Nat} {v : Value} {f g : mv_Shp → mv_Mem → Prop} (h : ∀ x y, f x y → g x y) : mv_pf sh M a ci j v f → mv_pf sh M a ci j v g := by
  unfold mv_pf; split
  · refine And.imp_right ?_
    split
    · exact h _ _
    · exact h _ _
    · exact id
  · exact id
theorem mv_nums_iff {sh : mv_Shp} {a : Nat} {f : Nat → Nat → Prop} : mv_nums sh a f ↔ ∃ t n, sh[a]? = some (.inl (t, n)) ∧ f t n := by
  unfold mv_nums; split
  · rename_i t n h; constructor
    · exact fun z => ⟨t, n, h, z⟩
    · rintro ⟨t', n', h1, h2⟩; rw [h] at h1; cases h1; exact h2
  · rename_i h; exact ⟨fun z => z.elim, fun ⟨t, n, e, _⟩ => h t n e⟩
theorem mv_nums_mono {sh : mv_Shp} {a : Nat} {f g : Nat → Nat → Prop} (h : ∀ t n, f t n → g t n) : mv_nums sh a f → mv_nums sh a g := by
  rw [mv_nums_iff, mv_nums_iff]; exact fun ⟨v, r, a, b⟩ => ⟨v, r, a, h _ _ b⟩
theorem mv_refs_iff {sh : mv_Shp} {a : Nat} {f : Nat → Nat → (Nat → Option Nat) → Prop} : mv_refs sh a f ↔ ∃ t n g, sh[a]? = some (.inr (.inr (t, n, g))) ∧ f t n g := by
  unfold mv_refs; split
  · rename_i t n g h; constructor
    · exact fun z => ⟨t, n, g, h, z⟩
    · rintro ⟨t', n', g', h1, h2⟩; rw [h] at h1; cases h1; exact h2
  · rename_i h; exact ⟨fun z => z.elim, fun ⟨t, n, g, e, _⟩ => h t n g e⟩
theorem mv_refs_mono {sh : mv_Shp} {a : Nat} {f g : Nat → Nat → (Nat → Option Nat) → Prop} (h : ∀ t n z, f t n z → g t n z) : mv_refs sh a f → mv_refs sh a g := by
  rw [mv_refs_iff, mv_refs_iff]; exact fun ⟨v, r, z, a, b⟩ => ⟨v, r, z, a, h _ _ _ b⟩
theorem mv_some_mono {x : Option Nat} {f g : Nat → Prop} (h : ∀ b, f b → g b) : mv_some x f → mv_some x g := by
  unfold mv_some; split
  · exact h _
  · exact id
theorem mv_cal_mono {S : Nat → mv_Sp} {j : Nat} {As : List Value} {sh : mv_Shp} {M : mv_Mem} {F G : mv_Post} (h : ∀ v sh M, F v sh M → G v sh M) : mv_cal S j As sh M F → mv_cal S j As sh M G :=
  fun ⟨Q, a, b⟩ => ⟨Q, a, fun v sh' M' q => h _ _ _ (b v sh' M' q)⟩
theorem mv_sw_mono {x : Int32} {K G : Nat → Prop} (h : ∀ t, K t → G t) : ∀ (v : Int) (ts : List Nat) (d : Nat), mv_sw x v ts d K → mv_sw x v ts d G
  | _, [], d => h d
  | v, t :: ts, d => fun ⟨a, b⟩ => ⟨fun e => h _ (a e), fun e => mv_sw_mono h (v + 1) ts d (b e)⟩
theorem mv_ls_mono {x : Int32} {K G : Nat → Prop} (h : ∀ t, K t → G t) : ∀ (ts : List (Int × Nat)) (d : Nat), mv_ls x ts d K → mv_ls x ts d G
  | [], d => h d
  | (v, t) :: ts, d => fun ⟨a, b⟩ => ⟨fun e => h _ (a e), fun e => mv_ls_mono h ts d (b e)⟩
theorem mv_two {c A B A' B' : Prop} (h1 : A → A') (h2 : B → B') : (c → A) ∧ (¬ c → B) → (c → A') ∧ (¬ c → B') := fun ⟨a, b⟩ => ⟨fun e => h1 (a e), fun e => h2 (b e)⟩
theorem mv_two' {c A B A' B' : Prop} (h1 : A → A') (h2 : B → B') : (¬ c → A) ∧ (c → B) → (¬ c → A') ∧ (c → B') := fun ⟨a, b⟩ => ⟨fun e => h1 (a e), fun e => h2 (b e)⟩
theorem mv_ivk_mono {S : Nat → mv_Sp} {lim : Nat × Nat} {K G : mv_Kt} (h : ∀ pc L st sh M c s, K pc L st sh M c s → G pc L st sh M c s) {ax : List Nat} {pc : Nat} {L : mv_Loc} {st : List Value} {sh : mv_Shp} {M : mv_Mem} {c s : Nat} :
    mv_ivk S lim K ax pc L st sh M c s → mv_ivk S lim G ax pc L st sh M c s := by
  unfold mv_ivk; split
  · exact mv_pI_mono (fun _ _ => mv_pI_mono (fun _ _ => mv_pA_mono (fun _ _ => mv_pI_mono (fun _ _ => mv_pA_mono (fun _ _ => mv_nums_mono (fun _ _ => mv_nums_mono (fun _ _ => And.imp_right (h _ _ _ _ _ _ _))))))))
  · exact And.imp_right (mv_pI_mono (fun _ _ => mv_pI_mono (fun _ _ => h _ _ _ _ _ _ _)))
  · exact And.imp_right (mv_pI_mono (fun _ _ => h _ _ _ _ _ _ _))
  · exact And.imp_right (mv_pA_mono (fun _ _ => h _ _ _ _ _ _ _))
  · exact mv_pI_mono (fun _ _ => mv_pI_mono (fun _ _ => mv_pA_mono (fun _ _ => mv_pI_mono (fun _ _ => mv_pA_mono (fun _ _ => mv_nums_mono (fun _ _ => And.imp_right (h _ _ _ _ _ _ _)))))))
  · exact mv_tk_mono (fun _ _ => And.imp_right (And.imp_right (And.imp_right (And.imp_right (mv_cal_mono (fun _ _ _ => h _ _ _ _ _ _ _))))))
theorem mv_getf_mono {K G : mv_Kt} (h : ∀ pc L st sh M c s, K pc L st sh M c s → G pc L st sh M c s) {ax : List Nat} {pc : Nat} {L : mv_Loc} {st : List Value} {sh : mv_Shp} {M : mv_Mem} {c s : Nat} : mv_getf K ax pc L st sh M c s → mv_getf G ax pc L st sh M c s := by
  unfold mv_getf; split
  · exact mv_pA_mono (fun _ _ => And.imp_right (h _ _ _ _ _ _ _))
  · exact mv_pA_mono (fun _ _ => mv_gf_mono (fun _ => h _ _ _ _ _ _ _))
theorem mv_alen_mono {K G : mv_Kt} (h : ∀ pc L st sh M c s, K pc L st sh M c s → G pc L st sh M c s) {ax : List Nat} {pc : Nat} {L : mv_Loc} {st : List Value} {sh : mv_Shp} {M : mv_Mem} {c s : Nat} : mv_alen K ax pc L st sh M c s → mv_alen G ax pc L st sh M c s := by
  unfold mv_alen; split
  · exact mv_pA_mono (fun _ _ => mv_nums_mono (fun _ _ => And.imp_right (h _ _ _ _ _ _ _)))
  · exact mv_pA_mono (fun _ _ => And.imp_right (h _ _ _ _ _ _ _))
set_option maxHeartbeats 4000000 in
theorem mv_step_mono {DF : mv_Cls} {S : Nat → mv_Sp} {lim : Nat × Nat} {P : mv_Post} {K G : mv_Kt} (h : ∀ pc L st sh M c s, K pc L st sh M c s → G pc L st sh M c s) {i : Instr} {len : Nat} {ax : List Nat} {pc : Nat} {L : mv_Loc} {st : List Value} {sh : mv_Shp} {M : mv_Mem} {c s : Nat} :
    mv_step DF S lim P K i len ax pc L st sh M c s → mv_step DF S lim P G i len ax pc L st sh M c s := by
  unfold mv_step; split
  all_goals first
    | exact fun z => z
    | exact h _ _ _ _ _ _ _
    | exact mv_ivk_mono h
    | exact mv_getf_mono h
    | exact mv_alen_mono h
    | exact mv_pA_mono (fun _ _ => h _ _ _ _ _ _ _)
    | exact mv_ldI_mono (fun _ => h _ _ _ _ _ _ _) _ _
    | exact mv_ldA_mono (fun _ => h _ _ _ _ _ _ _) _ _
    | exact mv_ldL_mono (fun _ => h _ _ _ _ _ _ _) _ _
    | exact mv_pI_mono (fun _ _ => mv_stA_mono (fun _ => h _ _ _ _ _ _ _) _ _)
    | exact mv_pA_mono (fun _ _ => mv_stA_mono (fun _ => h _ _ _ _ _ _ _) _ _)
    | exact mv_pL_mono (fun _ _ => mv_stL_mono (fun _ => h _ _ _ _ _ _ _) _ _)
    | exact mv_ldI_mono (fun _ => mv_stA_mono (fun _ => h _ _ _ _ _ _ _) _ _) _ _
    | exact mv_pI_mono (fun _ _ => mv_pI_mono (fun _ _ => h _ _ _ _ _ _ _))
    | exact mv_pI_mono (fun _ _ => h _ _ _ _ _ _ _)
    | exact mv_pL_mono (fun _ _ => h _ _ _ _ _ _ _)
    | exact mv_pL_mono (fun _ _ => mv_pL_mono (fun _ _ => h _ _ _ _ _ _ _))
    | exact mv_pI_mono (fun _ _ => mv_pI_mono (fun _ _ => And.imp_right (h _ _ _ _ _ _ _)))
    | exact mv_pL_mono (fun _ _ => mv_pL_mono (fun _ _ => And.imp_right (h _ _ _ _ _ _ _)))
    | exact mv_pI_mono (fun _ _ => mv_pI_mono (fun _ _ => mv_two (h _ _ _ _ _ _ _) (h _ _ _ _ _ _ _)))
    | exact mv_pI_mono (fun _ _ => mv_pI_mono (fun _ _ => mv_two' (h _ _ _ _ _ _ _) (h _ _ _ _ _ _ _)))
    | exact mv_pI_mono (fun _ _ => mv_two (h _ _ _ _ _ _ _) (h _ _ _ _ _ _ _))
    | exact mv_pI_mono (fun _ _ => mv_two' (h _ _ _ _ _ _ _) (h _ _ _ _ _ _ _))
    | exact mv_pV_mono (fun _ _ => h _ _ _ _ _ _ _)
    | exact mv_pV_mono (fun _ _ => mv_pV_mono (fun _ _ => h _ _ _ _ _ _ _))
    | exact mv_pI_mono (fun _ _ => mv_sw_mono (fun _ => h _ _ _ _ _ _ _) _ _ _)
    | exact mv_pI_mono (fun _ _ => mv_ls_mono (fun _ => h _ _ _ _ _ _ _) _ _)
    | exact mv_pA_mono (fun _ _ => mv_gf_mono (fun _ => h _ _ _ _ _ _ _))
    | exact mv_pV_mono (fun _ _ => And.imp_right (mv_pA_mono (fun _ _ => mv_pf_mono (fun _ _ => h _ _ _ _ _ _ _))))
    | exact mv_pI_mono (fun _ _ => mv_pA_mono (fun _ _ => mv_nums_mono (fun _ _ => And.imp_right (h _ _ _ _ _ _ _))))
    | exact mv_pI_mono (fun _ _ => mv_pI_mono (fun _ _ => mv_pA_mono (fun _ _ => mv_nums_mono (fun _ _ => And.imp_right (h _ _ _ _ _ _ _)))))
    | exact mv_pI_mono (fun _ _ => mv_pA_mono (fun _ _ => mv_refs_mono (fun _ _ _ => And.imp_right (mv_some_mono (fun _ => h _ _ _ _ _ _ _)))))
    | exact mv_pA_mono (fun _ _ => mv_pI_mono (fun _ _ => mv_pA_mono (fun _ _ => mv_refs_mono (fun _ _ _ => And.imp_right (h _ _ _ _ _ _ _)))))
    | exact mv_pA_mono (fun _ _ => mv_nums_mono (fun _ _ => And.imp_right (h _ _ _ _ _ _ _)))
    | exact mv_pI_mono (fun _ _ => And.imp_right (h _ _ _ _ _ _ _))
    | (split <;> first | exact fun z => z | exact h _ _ _ _ _ _ _ | exact And.imp (h _ _ _ _ _ _ _) (h _ _ _ _ _ _ _))
    | (refine And.imp_right ?_; split <;> first | exact fun z => z | exact h _ _ _ _ _ _ _)
theorem mv_R_iff {DF : mv_Cls} {cd : mv_Cd} {S : Nat → mv_Sp} {lim : Nat × Nat} {P : mv_Post} {pc : Nat} {L : mv_Loc} {st : List Value} {sh : mv_Shp} {M : mv_Mem} {c s : Nat} {i : Instr} {len : Nat} {ax : List Nat} (hf : mv_f cd pc = some (i, len, ax)) :
    mv_R DF cd S lim P pc L st sh M c s ↔ mv_step DF S lim P (mv_R DF cd S lim P) i len ax pc L st sh M c s := by
  have key : mv_stp DF cd S lim P (mv_R DF cd S lim P) pc L st sh M c s = mv_step DF S lim P (mv_R DF cd S lim P) i len ax pc L st sh M c s := by
    unfold mv_stp; rw [hf]
  rw [← key]
  constructor
  · intro h
    refine h (mv_stp DF cd S lim P (mv_R DF cd S lim P)) (fun K pc L st sh M c s hK hk => ?_)
    revert hk
    unfold mv_stp
    split
    · refine mv_step_mono (fun pc L st sh M c s hk => mv_R_fold (hK _ _ _ _ _ _ _ hk))
    · exact id
  · exact mv_R_fold
/-- from the states to a claim of them: what the step asks must be enough -/
theorem mv_R_ind {DF : mv_Cls} {cd : mv_Cd} {S : Nat → mv_Sp} {lim : Nat × Nat} {P : mv_Post} (X : mv_Kt)
    (hX : ∀ (K : mv_Kt) (i : Instr) (len : Nat) (ax : List Nat) pc L st sh M c s, (∀ pc L st sh M c s, K pc L st sh M c s → X pc L st sh M c s) → mv_f cd pc = some (i, len, ax) → mv_step DF S lim P K i len ax pc L st sh M c s → X pc L st sh M c s)
    {pc : Nat} {L : mv_Loc} {st : List Value} {sh : mv_Shp} {M : mv_Mem} {c s : Nat} (h : mv_R DF cd S lim P pc L st sh M c s) : X pc L st sh M c s := by
  refine h X (fun K pc L st sh M c s hK hk => ?_)
  unfold mv_stp at hk
  split at hk
  · rename_i i len ax hf
    exact hX K i len ax pc L st sh M c s hK hf hk
  · exact hk.elim
