/-! the class's constructors: the small ones -/
def nz (n : Nat) (M : mv_Mem) : Prop := ∀ b, b < n → ∀ i, M b i = nI 0
theorem nz_wr {n m : Nat} {M : mv_Mem} (h : nz n M) (hm : m = n + 1) : nz m (mv_wr M n (fun _ => 0)) := by
  subst hm
  intro b hb i
  by_cases z : b = n
  · subst z; rw [q_wrS]; rfl
  · rw [q_wrO z]; exact h b (by omega) i
theorem nz_up {n a j : Nat} {M : mv_Mem} (h : nz n M) : nz n (mv_up M a j (nI 0)) := by
  intro b hb i
  by_cases z : b = a ∧ i = j
  · obtain ⟨rfl, rfl⟩ := z; exact q_upS
  · rw [q_upN z]; exact h b hb i
theorem nI_p0 {k : Nat} (h : k < 2147483648) : (nI k < (0 : Int32)) = False := eq_false (nI_pos h)
theorem kpr_of {sh : mv_Shp} {M : mv_Mem} {a ci j x : Nat} {fs : List (Option Value)} {w : Value} {K : mv_Kt} {pc : Nat} {L : mv_Loc} {st : List Value} {c s : Nat} (h : sh[a]? = some (.inr (.inl (ci, fs)))) (hj : fs[j]? = some (some w)) : mv_kpr sh M a ci j x K pc L st c s = K pc L st (sh.set a (.inr (.inl (ci, fs.set j (some (.ref x)))))) M c s := by
  unfold mv_kpr mv_pf
  rw [h]
  simp [hj]
theorem kpf_of {sh : mv_Shp} {M : mv_Mem} {a ci j : Nat} {x : Int32} {fs : List (Option Value)} {K : mv_Kt} {pc : Nat} {L : mv_Loc} {st : List Value} {c s : Nat} (h : sh[a]? = some (.inr (.inl (ci, fs)))) (hj : fs[j]? = some none) : mv_kpf sh M a ci j x K pc L st c s = K pc L st sh (mv_up M a j x) c s := by
  unfold mv_kpf mv_pf
  rw [h]
  simp [hj]
theorem kgr_of {sh : mv_Shp} {M : mv_Mem} {a ci j : Nat} {v : Value} {fs : List (Option Value)} {K : mv_Kt} {pc : Nat} {L : mv_Loc} {st : List Value} {c s : Nat} (h : sh[a]? = some (.inr (.inl (ci, fs)))) (hj : fs[j]? = some (some v)) : mv_kgf sh M a ci j K pc L st c s = K pc L (v :: st) sh M c s := by
  unfold mv_kgf mv_gf
  rw [h]
  simp [hj]
theorem isO_of {sh : mv_Shp} {a ci : Nat} {fs : List (Option Value)} (h : sh[a]? = some (.inr (.inl (ci, fs)))) : mv_isO sh (some (.ref a)) ci = True := by
  unfold mv_isO
  dsimp only
  rw [h]
  simp
theorem sa_lo {sh : mv_Shp} {e : mv_Sh1} {k : Nat} (h : k < sh.length) : (sh ++ [e])[k]? = sh[k]? := List.getElem?_append_left h
theorem sa_len {sh : mv_Shp} {e : mv_Sh1} {n : Nat} (h : sh.length = n) : (sh ++ [e]).length = n + 1 := by rw [List.length_append, h]; rfl
theorem ss_at {sh : mv_Shp} {e : mv_Sh1} {k : Nat} (h : k < sh.length) : (sh.set k e)[k]? = some e := List.getElem?_set_self h
theorem ss_len {sh : mv_Shp} {e : mv_Sh1} {k n : Nat} (h : sh.length = n) : (sh.set k e).length = n := by rw [List.length_set]; exact h
def cs2 (sh : mv_Shp) (a : Nat) : mv_Shp :=
  ((((((((((((sh ++ [(.inl (0, 6) : mv_Sh1)]).set a (.inr (.inl (1, [none, none, none, none, some (.ref (a + 1)), some .null, some .null, some .null, some .null, some .null])))) ++ [(.inl (0, 6) : mv_Sh1)]).set a (.inr (.inl (1, [none, none, none, none, some (.ref (a + 1)), some (.ref (a + 2)), some .null, some .null, some .null, some .null])))) ++ [(.inl (0, 24) : mv_Sh1)]).set a (.inr (.inl (1, [none, none, none, none, some (.ref (a + 1)), some (.ref (a + 2)), some (.ref (a + 3)), some .null, some .null, some .null])))) ++ [(.inl (0, 24) : mv_Sh1)]).set a (.inr (.inl (1, [none, none, none, none, some (.ref (a + 1)), some (.ref (a + 2)), some (.ref (a + 3)), some (.ref (a + 4)), some .null, some .null])))) ++ [(.inl (0, 6) : mv_Sh1)]).set a (.inr (.inl (1, [none, none, none, none, some (.ref (a + 1)), some (.ref (a + 2)), some (.ref (a + 3)), some (.ref (a + 4)), some (.ref (a + 5)), some .null])))) ++ [(.inl (0, 8) : mv_Sh1)]).set a (.inr (.inl (1, [none, none, none, none, some (.ref (a + 1)), some (.ref (a + 2)), some (.ref (a + 3)), some (.ref (a + 4)), some (.ref (a + 5)), some (.ref (a + 6))]))))
def sp2 : mv_Sp := fun As sh M Q => ∃ a : Nat, As = [.ref a] ∧ sh.length = a + 1 ∧ a < 850 ∧ sh[a]? = some (.inr (.inl (1, [none, none, none, none, some .null, some .null, some .null, some .null, some .null, some .null]))) ∧ nz (a + 1) M ∧ ∀ M', nz (a + 7) M' → Q none (cs2 sh a) M'
theorem ct2 {S : Nat → mv_Sp} : ∀ As sh M P, sp2 As sh M P → (mv_al0 As).length ≤ 1 ∧ mr2 S P 0 (mv_ent As 1) [] sh M 0 0 := by
  rintro As sh M P ⟨a, rfl, l0, ha, g0, hz, hQ⟩
  refine ⟨Nat.le_of_ble_eq_true rfl, ?_⟩
  show mr2 S P 0 [some (.ref a)] [] sh M 0 0
  unfold cs2 at hQ
  have p0 : (sh ++ [(.inl (0, 6) : mv_Sh1)])[a]? = some (.inr (.inl (1, [none, none, none, none, some .null, some .null, some .null, some .null, some .null, some .null]))) := (sa_lo (by rw [l0]; omega)).trans g0
  have l1 : ((sh ++ [(.inl (0, 6) : mv_Sh1)]).set a (.inr (.inl (1, [none, none, none, none, some (.ref (a + 1)), some .null, some .null, some .null, some .null, some .null])))).length = a + 2 := ss_len (sa_len l0)
  have g1 : ((sh ++ [(.inl (0, 6) : mv_Sh1)]).set a (.inr (.inl (1, [none, none, none, none, some (.ref (a + 1)), some .null, some .null, some .null, some .null, some .null]))))[a]? = some (.inr (.inl (1, [none, none, none, none, some (.ref (a + 1)), some .null, some .null, some .null, some .null, some .null]))) := ss_at (by rw [sa_len l0]; omega)
  have r0 : ∀ {M : mv_Mem} {K : mv_Kt} {pc : Nat} {L : mv_Loc} {st : List Value} {c s : Nat}, mv_kpr (sh ++ [(.inl (0, 6) : mv_Sh1)]) M a 1 4 (a + 1) K pc L st c s = K pc L st ((sh ++ [(.inl (0, 6) : mv_Sh1)]).set a (.inr (.inl (1, [none, none, none, none, some (.ref (a + 1)), some .null, some .null, some .null, some .null, some .null])))) M c s := fun {M K pc L st c s} => kpr_of p0 rfl
  have p1 : (((sh ++ [(.inl (0, 6) : mv_Sh1)]).set a (.inr (.inl (1, [none, none, none, none, some (.ref (a + 1)), some .null, some .null, some .null, some .null, some .null])))) ++ [(.inl (0, 6) : mv_Sh1)])[a]? = some (.inr (.inl (1, [none, none, none, none, some (.ref (a + 1)), some .null, some .null, some .null, some .null, some .null]))) := (sa_lo (by rw [l1]; omega)).trans g1
  have l2 : ((((sh ++ [(.inl (0, 6) : mv_Sh1)]).set a (.inr (.inl (1, [none, none, none, none, some (.ref (a + 1)), some .null, some .null, some .null, some .null, some .null])))) ++ [(.inl (0, 6) : mv_Sh1)]).set a (.inr (.inl (1, [none, none, none, none, some (.ref (a + 1)), some (.ref (a + 2)), some .null, some .null, some .null, some .null])))).length = a + 3 := ss_len (sa_len l1)
  have g2 : ((((sh ++ [(.inl (0, 6) : mv_Sh1)]).set a (.inr (.inl (1, [none, none, none, none, some (.ref (a + 1)), some .null, some .null, some .null, some .null, some .null])))) ++ [(.inl (0, 6) : mv_Sh1)]).set a (.inr (.inl (1, [none, none, none, none, some (.ref (a + 1)), some (.ref (a + 2)), some .null, some .null, some .null, some .null]))))[a]? = some (.inr (.inl (1, [none, none, none, none, some (.ref (a + 1)), some (.ref (a + 2)), some .null, some .null, some .null, some .null]))) := ss_at (by rw [sa_len l1]; omega)
  have r1 : ∀ {M : mv_Mem} {K : mv_Kt} {pc : Nat} {L : mv_Loc} {st : List Value} {c s : Nat}, mv_kpr (((sh ++ [(.inl (0, 6) : mv_Sh1)]).set a (.inr (.inl (1, [none, none, none, none, some (.ref (a + 1)), some .null, some .null, some .null, some .null, some .null])))) ++ [(.inl (0, 6) : mv_Sh1)]) M a 1 5 (a + 2) K pc L st c s = K pc L st ((((sh ++ [(.inl (0, 6) : mv_Sh1)]).set a (.inr (.inl (1, [none, none, none, none, some (.ref (a + 1)), some .null, some .null, some .null, some .null, some .null])))) ++ [(.inl (0, 6) : mv_Sh1)]).set a (.inr (.inl (1, [none, none, none, none, some (.ref (a + 1)), some (.ref (a + 2)), some .null, some .null, some .null, some .null])))) M c s := fun {M K pc L st c s} => kpr_of p1 rfl
  have p2 : (((((sh ++ [(.inl (0, 6) : mv_Sh1)]).set a (.inr (.inl (1, [none, none, none, none, some (.ref (a + 1)), some .null, some .null, some .null, some .null, some .null])))) ++ [(.inl (0, 6) : mv_Sh1)]).set a (.inr (.inl (1, [none, none, none, none, some (.ref (a + 1)), some (.ref (a + 2)), some .null, some .null, some .null, some .null])))) ++ [(.inl (0, 24) : mv_Sh1)])[a]? = some (.inr (.inl (1, [none, none, none, none, some (.ref (a + 1)), some (.ref (a + 2)), some .null, some .null, some .null, some .null]))) := (sa_lo (by rw [l2]; omega)).trans g2
  have l3 : ((((((sh ++ [(.inl (0, 6) : mv_Sh1)]).set a (.inr (.inl (1, [none, none, none, none, some (.ref (a + 1)), some .null, some .null, some .null, some .null, some .null])))) ++ [(.inl (0, 6) : mv_Sh1)]).set a (.inr (.inl (1, [none, none, none, none, some (.ref (a + 1)), some (.ref (a + 2)), some .null, some .null, some .null, some .null])))) ++ [(.inl (0, 24) : mv_Sh1)]).set a (.inr (.inl (1, [none, none, none, none, some (.ref (a + 1)), some (.ref (a + 2)), some (.ref (a + 3)), some .null, some .null, some .null])))).length = a + 4 := ss_len (sa_len l2)
  have g3 : ((((((sh ++ [(.inl (0, 6) : mv_Sh1)]).set a (.inr (.inl (1, [none, none, none, none, some (.ref (a + 1)), some .null, some .null, some .null, some .null, some .null])))) ++ [(.inl (0, 6) : mv_Sh1)]).set a (.inr (.inl (1, [none, none, none, none, some (.ref (a + 1)), some (.ref (a + 2)), some .null, some .null, some .null, some .null])))) ++ [(.inl (0, 24) : mv_Sh1)]).set a (.inr (.inl (1, [none, none, none, none, some (.ref (a + 1)), some (.ref (a + 2)), some (.ref (a + 3)), some .null, some .null, some .null]))))[a]? = some (.inr (.inl (1, [none, none, none, none, some (.ref (a + 1)), some (.ref (a + 2)), some (.ref (a + 3)), some .null, some .null, some .null]))) := ss_at (by rw [sa_len l2]; omega)
  have r2 : ∀ {M : mv_Mem} {K : mv_Kt} {pc : Nat} {L : mv_Loc} {st : List Value} {c s : Nat}, mv_kpr (((((sh ++ [(.inl (0, 6) : mv_Sh1)]).set a (.inr (.inl (1, [none, none, none, none, some (.ref (a + 1)), some .null, some .null, some .null, some .null, some .null])))) ++ [(.inl (0, 6) : mv_Sh1)]).set a (.inr (.inl (1, [none, none, none, none, some (.ref (a + 1)), some (.ref (a + 2)), some .null, some .null, some .null, some .null])))) ++ [(.inl (0, 24) : mv_Sh1)]) M a 1 6 (a + 3) K pc L st c s = K pc L st ((((((sh ++ [(.inl (0, 6) : mv_Sh1)]).set a (.inr (.inl (1, [none, none, none, none, some (.ref (a + 1)), some .null, some .null, some .null, some .null, some .null])))) ++ [(.inl (0, 6) : mv_Sh1)]).set a (.inr (.inl (1, [none, none, none, none, some (.ref (a + 1)), some (.ref (a + 2)), some .null, some .null, some .null, some .null])))) ++ [(.inl (0, 24) : mv_Sh1)]).set a (.inr (.inl (1, [none, none, none, none, some (.ref (a + 1)), some (.ref (a + 2)), some (.ref (a + 3)), some .null, some .null, some .null])))) M c s := fun {M K pc L st c s} => kpr_of p2 rfl
  have p3 : (((((((sh ++ [(.inl (0, 6) : mv_Sh1)]).set a (.inr (.inl (1, [none, none, none, none, some (.ref (a + 1)), some .null, some .null, some .null, some .null, some .null])))) ++ [(.inl (0, 6) : mv_Sh1)]).set a (.inr (.inl (1, [none, none, none, none, some (.ref (a + 1)), some (.ref (a + 2)), some .null, some .null, some .null, some .null])))) ++ [(.inl (0, 24) : mv_Sh1)]).set a (.inr (.inl (1, [none, none, none, none, some (.ref (a + 1)), some (.ref (a + 2)), some (.ref (a + 3)), some .null, some .null, some .null])))) ++ [(.inl (0, 24) : mv_Sh1)])[a]? = some (.inr (.inl (1, [none, none, none, none, some (.ref (a + 1)), some (.ref (a + 2)), some (.ref (a + 3)), some .null, some .null, some .null]))) := (sa_lo (by rw [l3]; omega)).trans g3
  have l4 : ((((((((sh ++ [(.inl (0, 6) : mv_Sh1)]).set a (.inr (.inl (1, [none, none, none, none, some (.ref (a + 1)), some .null, some .null, some .null, some .null, some .null])))) ++ [(.inl (0, 6) : mv_Sh1)]).set a (.inr (.inl (1, [none, none, none, none, some (.ref (a + 1)), some (.ref (a + 2)), some .null, some .null, some .null, some .null])))) ++ [(.inl (0, 24) : mv_Sh1)]).set a (.inr (.inl (1, [none, none, none, none, some (.ref (a + 1)), some (.ref (a + 2)), some (.ref (a + 3)), some .null, some .null, some .null])))) ++ [(.inl (0, 24) : mv_Sh1)]).set a (.inr (.inl (1, [none, none, none, none, some (.ref (a + 1)), some (.ref (a + 2)), some (.ref (a + 3)), some (.ref (a + 4)), some .null, some .null])))).length = a + 5 := ss_len (sa_len l3)
  have g4 : ((((((((sh ++ [(.inl (0, 6) : mv_Sh1)]).set a (.inr (.inl (1, [none, none, none, none, some (.ref (a + 1)), some .null, some .null, some .null, some .null, some .null])))) ++ [(.inl (0, 6) : mv_Sh1)]).set a (.inr (.inl (1, [none, none, none, none, some (.ref (a + 1)), some (.ref (a + 2)), some .null, some .null, some .null, some .null])))) ++ [(.inl (0, 24) : mv_Sh1)]).set a (.inr (.inl (1, [none, none, none, none, some (.ref (a + 1)), some (.ref (a + 2)), some (.ref (a + 3)), some .null, some .null, some .null])))) ++ [(.inl (0, 24) : mv_Sh1)]).set a (.inr (.inl (1, [none, none, none, none, some (.ref (a + 1)), some (.ref (a + 2)), some (.ref (a + 3)), some (.ref (a + 4)), some .null, some .null]))))[a]? = some (.inr (.inl (1, [none, none, none, none, some (.ref (a + 1)), some (.ref (a + 2)), some (.ref (a + 3)), some (.ref (a + 4)), some .null, some .null]))) := ss_at (by rw [sa_len l3]; omega)
  have r3 : ∀ {M : mv_Mem} {K : mv_Kt} {pc : Nat} {L : mv_Loc} {st : List Value} {c s : Nat}, mv_kpr (((((((sh ++ [(.inl (0, 6) : mv_Sh1)]).set a (.inr (.inl (1, [none, none, none, none, some (.ref (a + 1)), some .null, some .null, some .null, some .null, some .null])))) ++ [(.inl (0, 6) : mv_Sh1)]).set a (.inr (.inl (1, [none, none, none, none, some (.ref (a + 1)), some (.ref (a + 2)), some .null, some .null, some .null, some .null])))) ++ [(.inl (0, 24) : mv_Sh1)]).set a (.inr (.inl (1, [none, none, none, none, some (.ref (a + 1)), some (.ref (a + 2)), some (.ref (a + 3)), some .null, some .null, some .null])))) ++ [(.inl (0, 24) : mv_Sh1)]) M a 1 7 (a + 4) K pc L st c s = K pc L st ((((((((sh ++ [(.inl (0, 6) : mv_Sh1)]).set a (.inr (.inl (1, [none, none, none, none, some (.ref (a + 1)), some .null, some .null, some .null, some .null, some .null])))) ++ [(.inl (0, 6) : mv_Sh1)]).set a (.inr (.inl (1, [none, none, none, none, some (.ref (a + 1)), some (.ref (a + 2)), some .null, some .null, some .null, some .null])))) ++ [(.inl (0, 24) : mv_Sh1)]).set a (.inr (.inl (1, [none, none, none, none, some (.ref (a + 1)), some (.ref (a + 2)), some (.ref (a + 3)), some .null, some .null, some .null])))) ++ [(.inl (0, 24) : mv_Sh1)]).set a (.inr (.inl (1, [none, none, none, none, some (.ref (a + 1)), some (.ref (a + 2)), some (.ref (a + 3)), some (.ref (a + 4)), some .null, some .null])))) M c s := fun {M K pc L st c s} => kpr_of p3 rfl
  have p4 : (((((((((sh ++ [(.inl (0, 6) : mv_Sh1)]).set a (.inr (.inl (1, [none, none, none, none, some (.ref (a + 1)), some .null, some .null, some .null, some .null, some .null])))) ++ [(.inl (0, 6) : mv_Sh1)]).set a (.inr (.inl (1, [none, none, none, none, some (.ref (a + 1)), some (.ref (a + 2)), some .null, some .null, some .null, some .null])))) ++ [(.inl (0, 24) : mv_Sh1)]).set a (.inr (.inl (1, [none, none, none, none, some (.ref (a + 1)), some (.ref (a + 2)), some (.ref (a + 3)), some .null, some .null, some .null])))) ++ [(.inl (0, 24) : mv_Sh1)]).set a (.inr (.inl (1, [none, none, none, none, some (.ref (a + 1)), some (.ref (a + 2)), some (.ref (a + 3)), some (.ref (a + 4)), some .null, some .null])))) ++ [(.inl (0, 6) : mv_Sh1)])[a]? = some (.inr (.inl (1, [none, none, none, none, some (.ref (a + 1)), some (.ref (a + 2)), some (.ref (a + 3)), some (.ref (a + 4)), some .null, some .null]))) := (sa_lo (by rw [l4]; omega)).trans g4
  have l5 : ((((((((((sh ++ [(.inl (0, 6) : mv_Sh1)]).set a (.inr (.inl (1, [none, none, none, none, some (.ref (a + 1)), some .null, some .null, some .null, some .null, some .null])))) ++ [(.inl (0, 6) : mv_Sh1)]).set a (.inr (.inl (1, [none, none, none, none, some (.ref (a + 1)), some (.ref (a + 2)), some .null, some .null, some .null, some .null])))) ++ [(.inl (0, 24) : mv_Sh1)]).set a (.inr (.inl (1, [none, none, none, none, some (.ref (a + 1)), some (.ref (a + 2)), some (.ref (a + 3)), some .null, some .null, some .null])))) ++ [(.inl (0, 24) : mv_Sh1)]).set a (.inr (.inl (1, [none, none, none, none, some (.ref (a + 1)), some (.ref (a + 2)), some (.ref (a + 3)), some (.ref (a + 4)), some .null, some .null])))) ++ [(.inl (0, 6) : mv_Sh1)]).set a (.inr (.inl (1, [none, none, none, none, some (.ref (a + 1)), some (.ref (a + 2)), some (.ref (a + 3)), some (.ref (a + 4)), some (.ref (a + 5)), some .null])))).length = a + 6 := ss_len (sa_len l4)
  have g5 : ((((((((((sh ++ [(.inl (0, 6) : mv_Sh1)]).set a (.inr (.inl (1, [none, none, none, none, some (.ref (a + 1)), some .null, some .null, some .null, some .null, some .null])))) ++ [(.inl (0, 6) : mv_Sh1)]).set a (.inr (.inl (1, [none, none, none, none, some (.ref (a + 1)), some (.ref (a + 2)), some .null, some .null, some .null, some .null])))) ++ [(.inl (0, 24) : mv_Sh1)]).set a (.inr (.inl (1, [none, none, none, none, some (.ref (a + 1)), some (.ref (a + 2)), some (.ref (a + 3)), some .null, some .null, some .null])))) ++ [(.inl (0, 24) : mv_Sh1)]).set a (.inr (.inl (1, [none, none, none, none, some (.ref (a + 1)), some (.ref (a + 2)), some (.ref (a + 3)), some (.ref (a + 4)), some .null, some .null])))) ++ [(.inl (0, 6) : mv_Sh1)]).set a (.inr (.inl (1, [none, none, none, none, some (.ref (a + 1)), some (.ref (a + 2)), some (.ref (a + 3)), some (.ref (a + 4)), some (.ref (a + 5)), some .null]))))[a]? = some (.inr (.inl (1, [none, none, none, none, some (.ref (a + 1)), some (.ref (a + 2)), some (.ref (a + 3)), some (.ref (a + 4)), some (.ref (a + 5)), some .null]))) := ss_at (by rw [sa_len l4]; omega)
  have r4 : ∀ {M : mv_Mem} {K : mv_Kt} {pc : Nat} {L : mv_Loc} {st : List Value} {c s : Nat}, mv_kpr (((((((((sh ++ [(.inl (0, 6) : mv_Sh1)]).set a (.inr (.inl (1, [none, none, none, none, some (.ref (a + 1)), some .null, some .null, some .null, some .null, some .null])))) ++ [(.inl (0, 6) : mv_Sh1)]).set a (.inr (.inl (1, [none, none, none, none, some (.ref (a + 1)), some (.ref (a + 2)), some .null, some .null, some .null, some .null])))) ++ [(.inl (0, 24) : mv_Sh1)]).set a (.inr (.inl (1, [none, none, none, none, some (.ref (a + 1)), some (.ref (a + 2)), some (.ref (a + 3)), some .null, some .null, some .null])))) ++ [(.inl (0, 24) : mv_Sh1)]).set a (.inr (.inl (1, [none, none, none, none, some (.ref (a + 1)), some (.ref (a + 2)), some (.ref (a + 3)), some (.ref (a + 4)), some .null, some .null])))) ++ [(.inl (0, 6) : mv_Sh1)]) M a 1 8 (a + 5) K pc L st c s = K pc L st ((((((((((sh ++ [(.inl (0, 6) : mv_Sh1)]).set a (.inr (.inl (1, [none, none, none, none, some (.ref (a + 1)), some .null, some .null, some .null, some .null, some .null])))) ++ [(.inl (0, 6) : mv_Sh1)]).set a (.inr (.inl (1, [none, none, none, none, some (.ref (a + 1)), some (.ref (a + 2)), some .null, some .null, some .null, some .null])))) ++ [(.inl (0, 24) : mv_Sh1)]).set a (.inr (.inl (1, [none, none, none, none, some (.ref (a + 1)), some (.ref (a + 2)), some (.ref (a + 3)), some .null, some .null, some .null])))) ++ [(.inl (0, 24) : mv_Sh1)]).set a (.inr (.inl (1, [none, none, none, none, some (.ref (a + 1)), some (.ref (a + 2)), some (.ref (a + 3)), some (.ref (a + 4)), some .null, some .null])))) ++ [(.inl (0, 6) : mv_Sh1)]).set a (.inr (.inl (1, [none, none, none, none, some (.ref (a + 1)), some (.ref (a + 2)), some (.ref (a + 3)), some (.ref (a + 4)), some (.ref (a + 5)), some .null])))) M c s := fun {M K pc L st c s} => kpr_of p4 rfl
  have p5 : (((((((((((sh ++ [(.inl (0, 6) : mv_Sh1)]).set a (.inr (.inl (1, [none, none, none, none, some (.ref (a + 1)), some .null, some .null, some .null, some .null, some .null])))) ++ [(.inl (0, 6) : mv_Sh1)]).set a (.inr (.inl (1, [none, none, none, none, some (.ref (a + 1)), some (.ref (a + 2)), some .null, some .null, some .null, some .null])))) ++ [(.inl (0, 24) : mv_Sh1)]).set a (.inr (.inl (1, [none, none, none, none, some (.ref (a + 1)), some (.ref (a + 2)), some (.ref (a + 3)), some .null, some .null, some .null])))) ++ [(.inl (0, 24) : mv_Sh1)]).set a (.inr (.inl (1, [none, none, none, none, some (.ref (a + 1)), some (.ref (a + 2)), some (.ref (a + 3)), some (.ref (a + 4)), some .null, some .null])))) ++ [(.inl (0, 6) : mv_Sh1)]).set a (.inr (.inl (1, [none, none, none, none, some (.ref (a + 1)), some (.ref (a + 2)), some (.ref (a + 3)), some (.ref (a + 4)), some (.ref (a + 5)), some .null])))) ++ [(.inl (0, 8) : mv_Sh1)])[a]? = some (.inr (.inl (1, [none, none, none, none, some (.ref (a + 1)), some (.ref (a + 2)), some (.ref (a + 3)), some (.ref (a + 4)), some (.ref (a + 5)), some .null]))) := (sa_lo (by rw [l5]; omega)).trans g5
  have l6 : ((((((((((((sh ++ [(.inl (0, 6) : mv_Sh1)]).set a (.inr (.inl (1, [none, none, none, none, some (.ref (a + 1)), some .null, some .null, some .null, some .null, some .null])))) ++ [(.inl (0, 6) : mv_Sh1)]).set a (.inr (.inl (1, [none, none, none, none, some (.ref (a + 1)), some (.ref (a + 2)), some .null, some .null, some .null, some .null])))) ++ [(.inl (0, 24) : mv_Sh1)]).set a (.inr (.inl (1, [none, none, none, none, some (.ref (a + 1)), some (.ref (a + 2)), some (.ref (a + 3)), some .null, some .null, some .null])))) ++ [(.inl (0, 24) : mv_Sh1)]).set a (.inr (.inl (1, [none, none, none, none, some (.ref (a + 1)), some (.ref (a + 2)), some (.ref (a + 3)), some (.ref (a + 4)), some .null, some .null])))) ++ [(.inl (0, 6) : mv_Sh1)]).set a (.inr (.inl (1, [none, none, none, none, some (.ref (a + 1)), some (.ref (a + 2)), some (.ref (a + 3)), some (.ref (a + 4)), some (.ref (a + 5)), some .null])))) ++ [(.inl (0, 8) : mv_Sh1)]).set a (.inr (.inl (1, [none, none, none, none, some (.ref (a + 1)), some (.ref (a + 2)), some (.ref (a + 3)), some (.ref (a + 4)), some (.ref (a + 5)), some (.ref (a + 6))])))).length = a + 7 := ss_len (sa_len l5)
  have g6 : ((((((((((((sh ++ [(.inl (0, 6) : mv_Sh1)]).set a (.inr (.inl (1, [none, none, none, none, some (.ref (a + 1)), some .null, some .null, some .null, some .null, some .null])))) ++ [(.inl (0, 6) : mv_Sh1)]).set a (.inr (.inl (1, [none, none, none, none, some (.ref (a + 1)), some (.ref (a + 2)), some .null, some .null, some .null, some .null])))) ++ [(.inl (0, 24) : mv_Sh1)]).set a (.inr (.inl (1, [none, none, none, none, some (.ref (a + 1)), some (.ref (a + 2)), some (.ref (a + 3)), some .null, some .null, some .null])))) ++ [(.inl (0, 24) : mv_Sh1)]).set a (.inr (.inl (1, [none, none, none, none, some (.ref (a + 1)), some (.ref (a + 2)), some (.ref (a + 3)), some (.ref (a + 4)), some .null, some .null])))) ++ [(.inl (0, 6) : mv_Sh1)]).set a (.inr (.inl (1, [none, none, none, none, some (.ref (a + 1)), some (.ref (a + 2)), some (.ref (a + 3)), some (.ref (a + 4)), some (.ref (a + 5)), some .null])))) ++ [(.inl (0, 8) : mv_Sh1)]).set a (.inr (.inl (1, [none, none, none, none, some (.ref (a + 1)), some (.ref (a + 2)), some (.ref (a + 3)), some (.ref (a + 4)), some (.ref (a + 5)), some (.ref (a + 6))]))))[a]? = some (.inr (.inl (1, [none, none, none, none, some (.ref (a + 1)), some (.ref (a + 2)), some (.ref (a + 3)), some (.ref (a + 4)), some (.ref (a + 5)), some (.ref (a + 6))]))) := ss_at (by rw [sa_len l5]; omega)
  have r5 : ∀ {M : mv_Mem} {K : mv_Kt} {pc : Nat} {L : mv_Loc} {st : List Value} {c s : Nat}, mv_kpr (((((((((((sh ++ [(.inl (0, 6) : mv_Sh1)]).set a (.inr (.inl (1, [none, none, none, none, some (.ref (a + 1)), some .null, some .null, some .null, some .null, some .null])))) ++ [(.inl (0, 6) : mv_Sh1)]).set a (.inr (.inl (1, [none, none, none, none, some (.ref (a + 1)), some (.ref (a + 2)), some .null, some .null, some .null, some .null])))) ++ [(.inl (0, 24) : mv_Sh1)]).set a (.inr (.inl (1, [none, none, none, none, some (.ref (a + 1)), some (.ref (a + 2)), some (.ref (a + 3)), some .null, some .null, some .null])))) ++ [(.inl (0, 24) : mv_Sh1)]).set a (.inr (.inl (1, [none, none, none, none, some (.ref (a + 1)), some (.ref (a + 2)), some (.ref (a + 3)), some (.ref (a + 4)), some .null, some .null])))) ++ [(.inl (0, 6) : mv_Sh1)]).set a (.inr (.inl (1, [none, none, none, none, some (.ref (a + 1)), some (.ref (a + 2)), some (.ref (a + 3)), some (.ref (a + 4)), some (.ref (a + 5)), some .null])))) ++ [(.inl (0, 8) : mv_Sh1)]) M a 1 9 (a + 6) K pc L st c s = K pc L st ((((((((((((sh ++ [(.inl (0, 6) : mv_Sh1)]).set a (.inr (.inl (1, [none, none, none, none, some (.ref (a + 1)), some .null, some .null, some .null, some .null, some .null])))) ++ [(.inl (0, 6) : mv_Sh1)]).set a (.inr (.inl (1, [none, none, none, none, some (.ref (a + 1)), some (.ref (a + 2)), some .null, some .null, some .null, some .null])))) ++ [(.inl (0, 24) : mv_Sh1)]).set a (.inr (.inl (1, [none, none, none, none, some (.ref (a + 1)), some (.ref (a + 2)), some (.ref (a + 3)), some .null, some .null, some .null])))) ++ [(.inl (0, 24) : mv_Sh1)]).set a (.inr (.inl (1, [none, none, none, none, some (.ref (a + 1)), some (.ref (a + 2)), some (.ref (a + 3)), some (.ref (a + 4)), some .null, some .null])))) ++ [(.inl (0, 6) : mv_Sh1)]).set a (.inr (.inl (1, [none, none, none, none, some (.ref (a + 1)), some (.ref (a + 2)), some (.ref (a + 3)), some (.ref (a + 4)), some (.ref (a + 5)), some .null])))) ++ [(.inl (0, 8) : mv_Sh1)]).set a (.inr (.inl (1, [none, none, none, none, some (.ref (a + 1)), some (.ref (a + 2)), some (.ref (a + 3)), some (.ref (a + 4)), some (.ref (a + 5)), some (.ref (a + 6))])))) M c s := fun {M K pc L st c s} => kpr_of p5 rfl
  simp (disch := first | assumption | omega) only [e2_0, e2_1, e2_4, e2_5, e2_7, e2_9, e2_12, e2_13, e2_15, e2_17, e2_20, e2_21, e2_23, e2_25, e2_28, e2_29, e2_31, e2_33, e2_36, e2_37, e2_39, e2_41, e2_44, e2_45, e2_47, e2_49, e2_52, q_gv0, q_gvs, q_isI1, q_isA1, q_hs0, q_hsn, q_hsi, q_hsr, q_hss, q_inc1, List.set_cons_zero, List.set_cons_succ, ↓reduceIte, q_ss0, q_ssi, q_ssr, q_nr0, q_nr10, q_nr11, q_tlS, q_tlN, q_cl, q_let, q_lef, q_ltt, q_ltf, q_eqt, q_eqf, q_add, q_mul, Nat.reduceAdd, Nat.reduceLeDiff, Nat.reduceEqDiff, eq_self, Nat.zero_le, Nat.le_refl, not_false_eq_true, not_true_eq_false, true_and, and_true, and_self, if_true, if_false, Nat.add_zero, Nat.zero_add, nI_p0, l0, r0, l1, r1, l2, r2, l3, r3, l4, r4, l5, r5]
  exact ⟨by omega, by omega, by omega, by omega, by omega, by omega, hQ _ (nz_wr (nz_wr (nz_wr (nz_wr (nz_wr (nz_wr hz rfl) rfl) rfl) rfl) rfl) rfl)⟩
def cs4 (sh : mv_Shp) (a : Nat) : mv_Shp :=
  ((((sh ++ [(.inl (0, 30) : mv_Sh1)]).set a (.inr (.inl (0, [some (.ref (a + 1)), some .null, none])))) ++ [(.inl (0, 768) : mv_Sh1)]).set a (.inr (.inl (0, [some (.ref (a + 1)), some (.ref (a + 2)), none]))))
def sp4 : mv_Sp := fun As sh M Q => ∃ a : Nat, As = [.ref a] ∧ sh.length = a + 1 ∧ a < 800 ∧ sh[a]? = some (.inr (.inl (0, [some .null, some .null, none]))) ∧ nz (a + 1) M ∧ ∀ M', nz (a + 3) M' → Q none (cs4 sh a) M'
theorem ct4 {S : Nat → mv_Sp} : ∀ As sh M P, sp4 As sh M P → (mv_al0 As).length ≤ 1 ∧ mr4 S P 0 (mv_ent As 1) [] sh M 0 0 := by
  rintro As sh M P ⟨a, rfl, l0, ha, g0, hz, hQ⟩
  refine ⟨Nat.le_of_ble_eq_true rfl, ?_⟩
  show mr4 S P 0 [some (.ref a)] [] sh M 0 0
  unfold cs4 at hQ
  have p0 : (sh ++ [(.inl (0, 30) : mv_Sh1)])[a]? = some (.inr (.inl (0, [some .null, some .null, none]))) := (sa_lo (by rw [l0]; omega)).trans g0
  have l1 : ((sh ++ [(.inl (0, 30) : mv_Sh1)]).set a (.inr (.inl (0, [some (.ref (a + 1)), some .null, none])))).length = a + 2 := ss_len (sa_len l0)
  have g1 : ((sh ++ [(.inl (0, 30) : mv_Sh1)]).set a (.inr (.inl (0, [some (.ref (a + 1)), some .null, none]))))[a]? = some (.inr (.inl (0, [some (.ref (a + 1)), some .null, none]))) := ss_at (by rw [sa_len l0]; omega)
  have r0 : ∀ {M : mv_Mem} {K : mv_Kt} {pc : Nat} {L : mv_Loc} {st : List Value} {c s : Nat}, mv_kpr (sh ++ [(.inl (0, 30) : mv_Sh1)]) M a 0 0 (a + 1) K pc L st c s = K pc L st ((sh ++ [(.inl (0, 30) : mv_Sh1)]).set a (.inr (.inl (0, [some (.ref (a + 1)), some .null, none])))) M c s := fun {M K pc L st c s} => kpr_of p0 rfl
  have p1 : (((sh ++ [(.inl (0, 30) : mv_Sh1)]).set a (.inr (.inl (0, [some (.ref (a + 1)), some .null, none])))) ++ [(.inl (0, 768) : mv_Sh1)])[a]? = some (.inr (.inl (0, [some (.ref (a + 1)), some .null, none]))) := (sa_lo (by rw [l1]; omega)).trans g1
  have l2 : ((((sh ++ [(.inl (0, 30) : mv_Sh1)]).set a (.inr (.inl (0, [some (.ref (a + 1)), some .null, none])))) ++ [(.inl (0, 768) : mv_Sh1)]).set a (.inr (.inl (0, [some (.ref (a + 1)), some (.ref (a + 2)), none])))).length = a + 3 := ss_len (sa_len l1)
  have g2 : ((((sh ++ [(.inl (0, 30) : mv_Sh1)]).set a (.inr (.inl (0, [some (.ref (a + 1)), some .null, none])))) ++ [(.inl (0, 768) : mv_Sh1)]).set a (.inr (.inl (0, [some (.ref (a + 1)), some (.ref (a + 2)), none]))))[a]? = some (.inr (.inl (0, [some (.ref (a + 1)), some (.ref (a + 2)), none]))) := ss_at (by rw [sa_len l1]; omega)
  have r1 : ∀ {M : mv_Mem} {K : mv_Kt} {pc : Nat} {L : mv_Loc} {st : List Value} {c s : Nat}, mv_kpr (((sh ++ [(.inl (0, 30) : mv_Sh1)]).set a (.inr (.inl (0, [some (.ref (a + 1)), some .null, none])))) ++ [(.inl (0, 768) : mv_Sh1)]) M a 0 1 (a + 2) K pc L st c s = K pc L st ((((sh ++ [(.inl (0, 30) : mv_Sh1)]).set a (.inr (.inl (0, [some (.ref (a + 1)), some .null, none])))) ++ [(.inl (0, 768) : mv_Sh1)]).set a (.inr (.inl (0, [some (.ref (a + 1)), some (.ref (a + 2)), none])))) M c s := fun {M K pc L st c s} => kpr_of p1 rfl
  simp (disch := first | assumption | omega) only [e4_0, e4_1, e4_4, e4_5, e4_7, e4_9, e4_12, e4_13, e4_16, e4_18, e4_21, q_gv0, q_gvs, q_isI1, q_isA1, q_hs0, q_hsn, q_hsi, q_hsr, q_hss, q_inc1, List.set_cons_zero, List.set_cons_succ, ↓reduceIte, q_ss0, q_ssi, q_ssr, q_nr0, q_nr10, q_nr11, q_tlS, q_tlN, q_cl, q_let, q_lef, q_ltt, q_ltf, q_eqt, q_eqf, q_add, q_mul, Nat.reduceAdd, Nat.reduceLeDiff, Nat.reduceEqDiff, eq_self, Nat.zero_le, Nat.le_refl, not_false_eq_true, not_true_eq_false, true_and, and_true, and_self, if_true, if_false, Nat.add_zero, Nat.zero_add, nI_p0, l0, r0, l1, r1]
  exact ⟨by omega, by omega, hQ _ (nz_wr (nz_wr hz rfl) rfl)⟩
def cs5 (sh : mv_Shp) (a : Nat) : mv_Shp :=
  ((((((sh ++ [(.inl (0, 4096) : mv_Sh1)]).set a (.inr (.inl (3, [some (.ref (a + 1)), some .null, some .null, none])))) ++ [(.inl (0, 4096) : mv_Sh1)]).set a (.inr (.inl (3, [some (.ref (a + 1)), some (.ref (a + 2)), some .null, none])))) ++ [(.inl (0, 12) : mv_Sh1)]).set a (.inr (.inl (3, [some (.ref (a + 1)), some (.ref (a + 2)), some (.ref (a + 3)), none]))))
def sp5 : mv_Sp := fun As sh M Q => ∃ a : Nat, As = [.ref a] ∧ sh.length = a + 1 ∧ a < 800 ∧ sh[a]? = some (.inr (.inl (3, [some .null, some .null, some .null, none]))) ∧ nz (a + 1) M ∧ ∀ M', nz (a + 4) M' → Q none (cs5 sh a) M'
theorem ct5 {S : Nat → mv_Sp} : ∀ As sh M P, sp5 As sh M P → (mv_al0 As).length ≤ 1 ∧ mr5 S P 0 (mv_ent As 1) [] sh M 0 0 := by
  rintro As sh M P ⟨a, rfl, l0, ha, g0, hz, hQ⟩
  refine ⟨Nat.le_of_ble_eq_true rfl, ?_⟩
  show mr5 S P 0 [some (.ref a)] [] sh M 0 0
  unfold cs5 at hQ
  have p0 : (sh ++ [(.inl (0, 4096) : mv_Sh1)])[a]? = some (.inr (.inl (3, [some .null, some .null, some .null, none]))) := (sa_lo (by rw [l0]; omega)).trans g0
  have l1 : ((sh ++ [(.inl (0, 4096) : mv_Sh1)]).set a (.inr (.inl (3, [some (.ref (a + 1)), some .null, some .null, none])))).length = a + 2 := ss_len (sa_len l0)
  have g1 : ((sh ++ [(.inl (0, 4096) : mv_Sh1)]).set a (.inr (.inl (3, [some (.ref (a + 1)), some .null, some .null, none]))))[a]? = some (.inr (.inl (3, [some (.ref (a + 1)), some .null, some .null, none]))) := ss_at (by rw [sa_len l0]; omega)
  have r0 : ∀ {M : mv_Mem} {K : mv_Kt} {pc : Nat} {L : mv_Loc} {st : List Value} {c s : Nat}, mv_kpr (sh ++ [(.inl (0, 4096) : mv_Sh1)]) M a 3 0 (a + 1) K pc L st c s = K pc L st ((sh ++ [(.inl (0, 4096) : mv_Sh1)]).set a (.inr (.inl (3, [some (.ref (a + 1)), some .null, some .null, none])))) M c s := fun {M K pc L st c s} => kpr_of p0 rfl
  have p1 : (((sh ++ [(.inl (0, 4096) : mv_Sh1)]).set a (.inr (.inl (3, [some (.ref (a + 1)), some .null, some .null, none])))) ++ [(.inl (0, 4096) : mv_Sh1)])[a]? = some (.inr (.inl (3, [some (.ref (a + 1)), some .null, some .null, none]))) := (sa_lo (by rw [l1]; omega)).trans g1
  have l2 : ((((sh ++ [(.inl (0, 4096) : mv_Sh1)]).set a (.inr (.inl (3, [some (.ref (a + 1)), some .null, some .null, none])))) ++ [(.inl (0, 4096) : mv_Sh1)]).set a (.inr (.inl (3, [some (.ref (a + 1)), some (.ref (a + 2)), some .null, none])))).length = a + 3 := ss_len (sa_len l1)
  have g2 : ((((sh ++ [(.inl (0, 4096) : mv_Sh1)]).set a (.inr (.inl (3, [some (.ref (a + 1)), some .null, some .null, none])))) ++ [(.inl (0, 4096) : mv_Sh1)]).set a (.inr (.inl (3, [some (.ref (a + 1)), some (.ref (a + 2)), some .null, none]))))[a]? = some (.inr (.inl (3, [some (.ref (a + 1)), some (.ref (a + 2)), some .null, none]))) := ss_at (by rw [sa_len l1]; omega)
  have r1 : ∀ {M : mv_Mem} {K : mv_Kt} {pc : Nat} {L : mv_Loc} {st : List Value} {c s : Nat}, mv_kpr (((sh ++ [(.inl (0, 4096) : mv_Sh1)]).set a (.inr (.inl (3, [some (.ref (a + 1)), some .null, some .null, none])))) ++ [(.inl (0, 4096) : mv_Sh1)]) M a 3 1 (a + 2) K pc L st c s = K pc L st ((((sh ++ [(.inl (0, 4096) : mv_Sh1)]).set a (.inr (.inl (3, [some (.ref (a + 1)), some .null, some .null, none])))) ++ [(.inl (0, 4096) : mv_Sh1)]).set a (.inr (.inl (3, [some (.ref (a + 1)), some (.ref (a + 2)), some .null, none])))) M c s := fun {M K pc L st c s} => kpr_of p1 rfl
  have p2 : (((((sh ++ [(.inl (0, 4096) : mv_Sh1)]).set a (.inr (.inl (3, [some (.ref (a + 1)), some .null, some .null, none])))) ++ [(.inl (0, 4096) : mv_Sh1)]).set a (.inr (.inl (3, [some (.ref (a + 1)), some (.ref (a + 2)), some .null, none])))) ++ [(.inl (0, 12) : mv_Sh1)])[a]? = some (.inr (.inl (3, [some (.ref (a + 1)), some (.ref (a + 2)), some .null, none]))) := (sa_lo (by rw [l2]; omega)).trans g2
  have l3 : ((((((sh ++ [(.inl (0, 4096) : mv_Sh1)]).set a (.inr (.inl (3, [some (.ref (a + 1)), some .null, some .null, none])))) ++ [(.inl (0, 4096) : mv_Sh1)]).set a (.inr (.inl (3, [some (.ref (a + 1)), some (.ref (a + 2)), some .null, none])))) ++ [(.inl (0, 12) : mv_Sh1)]).set a (.inr (.inl (3, [some (.ref (a + 1)), some (.ref (a + 2)), some (.ref (a + 3)), none])))).length = a + 4 := ss_len (sa_len l2)
  have g3 : ((((((sh ++ [(.inl (0, 4096) : mv_Sh1)]).set a (.inr (.inl (3, [some (.ref (a + 1)), some .null, some .null, none])))) ++ [(.inl (0, 4096) : mv_Sh1)]).set a (.inr (.inl (3, [some (.ref (a + 1)), some (.ref (a + 2)), some .null, none])))) ++ [(.inl (0, 12) : mv_Sh1)]).set a (.inr (.inl (3, [some (.ref (a + 1)), some (.ref (a + 2)), some (.ref (a + 3)), none]))))[a]? = some (.inr (.inl (3, [some (.ref (a + 1)), some (.ref (a + 2)), some (.ref (a + 3)), none]))) := ss_at (by rw [sa_len l2]; omega)
  have r2 : ∀ {M : mv_Mem} {K : mv_Kt} {pc : Nat} {L : mv_Loc} {st : List Value} {c s : Nat}, mv_kpr (((((sh ++ [(.inl (0, 4096) : mv_Sh1)]).set a (.inr (.inl (3, [some (.ref (a + 1)), some .null, some .null, none])))) ++ [(.inl (0, 4096) : mv_Sh1)]).set a (.inr (.inl (3, [some (.ref (a + 1)), some (.ref (a + 2)), some .null, none])))) ++ [(.inl (0, 12) : mv_Sh1)]) M a 3 2 (a + 3) K pc L st c s = K pc L st ((((((sh ++ [(.inl (0, 4096) : mv_Sh1)]).set a (.inr (.inl (3, [some (.ref (a + 1)), some .null, some .null, none])))) ++ [(.inl (0, 4096) : mv_Sh1)]).set a (.inr (.inl (3, [some (.ref (a + 1)), some (.ref (a + 2)), some .null, none])))) ++ [(.inl (0, 12) : mv_Sh1)]).set a (.inr (.inl (3, [some (.ref (a + 1)), some (.ref (a + 2)), some (.ref (a + 3)), none])))) M c s := fun {M K pc L st c s} => kpr_of p2 rfl
  simp (disch := first | assumption | omega) only [e5_0, e5_1, e5_4, e5_5, e5_8, e5_10, e5_13, e5_14, e5_17, e5_19, e5_22, e5_23, e5_25, e5_27, e5_30, q_gv0, q_gvs, q_isI1, q_isA1, q_hs0, q_hsn, q_hsi, q_hsr, q_hss, q_inc1, List.set_cons_zero, List.set_cons_succ, ↓reduceIte, q_ss0, q_ssi, q_ssr, q_nr0, q_nr10, q_nr11, q_tlS, q_tlN, q_cl, q_let, q_lef, q_ltt, q_ltf, q_eqt, q_eqf, q_add, q_mul, Nat.reduceAdd, Nat.reduceLeDiff, Nat.reduceEqDiff, eq_self, Nat.zero_le, Nat.le_refl, not_false_eq_true, not_true_eq_false, true_and, and_true, and_self, if_true, if_false, Nat.add_zero, Nat.zero_add, nI_p0, l0, r0, l1, r1, l2, r2]
  exact ⟨by omega, by omega, by omega, hQ _ (nz_wr (nz_wr (nz_wr hz rfl) rfl) rfl)⟩
/-- the text's builder begun -/
def cs0 (sh : mv_Shp) (a : Nat) : mv_Shp := (sh ++ [(.inl (1, 16) : mv_Sh1)]).set a (.inr (.inl (6, [some (.ref (a + 1)), none, none, none])))
def sp0 : mv_Sp := fun As sh M Q => ∃ a : Nat, As = [.ref a, .int (nI 16)] ∧ sh.length = a + 1 ∧ a < 800 ∧ sh[a]? = some (.inr (.inl (6, [some .null, none, none, none]))) ∧ nz (a + 1) M ∧ ∀ M', nz (a + 2) M' → Q none (cs0 sh a) M'
theorem ctz0 {S : Nat → mv_Sp} : ∀ As sh M P, sp0 As sh M P → (mv_al0 As).length ≤ 2 ∧ mr0 S P 0 (mv_ent As 2) [] sh M 0 0 := by
  rintro As sh M P ⟨a, rfl, l0, ha, g0, hz, hQ⟩
  refine ⟨Nat.le_of_ble_eq_true rfl, ?_⟩
  show mr0 S P 0 [some (.ref a), some (.int (nI 16))] [] sh M 0 0
  have p0 : (sh ++ [(.inl (1, 16) : mv_Sh1)])[a]? = some (.inr (.inl (6, [some .null, none, none, none]))) := (sa_lo (by rw [l0]; omega)).trans g0
  have g1 : (cs0 sh a)[a]? = some (.inr (.inl (6, [some (.ref (a + 1)), none, none, none]))) := ss_at (by rw [sa_len l0]; omega)
  have r0 : ∀ {M : mv_Mem} {K : mv_Kt} {pc : Nat} {L : mv_Loc} {st : List Value} {c s : Nat}, mv_kpr (sh ++ [(.inl (1, 16) : mv_Sh1)]) M a 6 0 (a + 1) K pc L st c s = K pc L st (cs0 sh a) M c s := fun {M K pc L st c s} => kpr_of p0 rfl
  have r1 : ∀ {M : mv_Mem} {x : Int32} {K : mv_Kt} {pc : Nat} {L : mv_Loc} {st : List Value} {c s : Nat}, mv_kpf (cs0 sh a) M a 6 1 x K pc L st c s = K pc L st (cs0 sh a) (mv_up M a 1 x) c s := fun {M x K pc L st c s} => kpf_of g1 rfl
  have i0 : (nI 0).toInt8.toInt32 = nI 0 := by decide
  simp (disch := first | assumption | omega) only [e0_0, e0_1, e0_4, e0_7, e0_10, e0_11, e0_12, e0_14, e0_17, e0_18, e0_19, e0_22, e0_25, e0_26, e0_38, q_gv0, q_gvs, q_isI1, q_isA1, q_hs0, q_hsn, q_hsi, q_hsr, q_hss, q_inc1, List.set_cons_zero, List.set_cons_succ, ↓reduceIte, q_ss0, q_ssi, q_ssr, q_nr0, q_nr10, q_nr11, q_tlS, q_tlN, q_cl, q_let, q_lef, q_ltt, q_ltf, q_eqt, q_eqf, q_add, q_mul, Nat.reduceAdd, Nat.reduceLeDiff, Nat.reduceEqDiff, eq_self, Nat.zero_le, Nat.le_refl, not_false_eq_true, not_true_eq_false, true_and, and_true, and_self, if_true, if_false, Nat.add_zero, Nat.zero_add, nI_p0, l0, r0, r1, i0]
  exact ⟨by omega, hQ _ (nz_up (nz_wr hz rfl))⟩
def sp1 : mv_Sp := fun As sh M Q => ∃ a : Nat, As = [.ref a] ∧ sh.length = a + 1 ∧ a < 800 ∧ sh[a]? = some (.inr (.inl (6, [some .null, none, none, none]))) ∧ nz (a + 1) M ∧ ∀ M', nz (a + 2) M' → Q none (cs0 sh a) M'
theorem ct1 {S : Nat → mv_Sp} (h0 : S 0 = sp0) : ∀ As sh M P, sp1 As sh M P → (mv_al0 As).length ≤ 1 ∧ mr1 S P 0 (mv_ent As 1) [] sh M 0 0 := by
  rintro As sh M P ⟨a, rfl, l0, ha, g0, hz, hQ⟩
  refine ⟨Nat.le_of_ble_eq_true rfl, ?_⟩
  show mr1 S P 0 [some (.ref a)] [] sh M 0 0
  have o := isO_of g0
  simp (disch := first | assumption | omega) only [e1_0, e1_1, e1_3, e1_6, q_gv0, q_gvs, q_isI1, q_isA1, q_hs0, q_hsn, q_hsi, q_hsr, q_hss, q_inc1, List.set_cons_zero, List.set_cons_succ, ↓reduceIte, q_ss0, q_ssi, q_ssr, q_nr0, q_nr10, q_nr11, q_tlS, q_tlN, q_cl, q_let, q_lef, q_ltt, q_ltf, q_eqt, q_eqf, q_add, q_mul, Nat.reduceAdd, Nat.reduceLeDiff, Nat.reduceEqDiff, eq_self, Nat.zero_le, Nat.le_refl, not_false_eq_true, not_true_eq_false, true_and, and_true, and_self, if_true, if_false, Nat.add_zero, Nat.zero_add, o]
  refine kal_of ?_
  rw [h0]
  refine ⟨a, rfl, l0, ha, g0, hz, fun M' z => ?_⟩
  show mr1 S P 6 [some (.ref a)] [] (cs0 sh a) M' _ _
  simp (disch := first | assumption | omega) only [e1_0, e1_1, e1_3, e1_6, q_gv0, q_gvs, q_isI1, q_isA1, q_hs0, q_hsn, q_hsi, q_hsr, q_hss, q_inc1, List.set_cons_zero, List.set_cons_succ, ↓reduceIte, q_ss0, q_ssi, q_ssr, q_nr0, q_nr10, q_nr11, q_tlS, q_tlN, q_cl, q_let, q_lef, q_ltt, q_ltf, q_eqt, q_eqf, q_add, q_mul, Nat.reduceAdd, Nat.reduceLeDiff, Nat.reduceEqDiff, eq_self, Nat.zero_le, Nat.le_refl, not_false_eq_true, not_true_eq_false, true_and, and_true, and_self, if_true, if_false]
  exact hQ M' z
/-- the reader begun -/
def cs3 (sh : mv_Shp) (a t : Nat) : mv_Shp := ((cs2 (sh ++ [.inr (.inl (1, [none, none, none, none, some .null, some .null, some .null, some .null, some .null, some .null]))]) (a + 1)).set a (.inr (.inl (2, [some .null, some (.ref (a + 1)), none])))).set a (.inr (.inl (2, [some (.ref t), some (.ref (a + 1)), none])))
theorem cs2_len {sh : mv_Shp} {a n : Nat} (h : sh.length = n) : (cs2 sh a).length = n + 6 := by
  unfold cs2
  exact ss_len (sa_len (ss_len (sa_len (ss_len (sa_len (ss_len (sa_len (ss_len (sa_len (ss_len (sa_len h)))))))))))
theorem cs2_lo {sh : mv_Shp} {a k : Nat} (h : k < sh.length) (hk : ¬ k = a) : (cs2 sh a)[k]? = sh[k]? := by
  unfold cs2
  have z : ¬ a = k := fun e => hk e.symm
  rw [List.getElem?_set_ne z, List.getElem?_append_left (by simp; omega), List.getElem?_set_ne z, List.getElem?_append_left (by simp; omega), List.getElem?_set_ne z, List.getElem?_append_left (by simp; omega), List.getElem?_set_ne z, List.getElem?_append_left (by simp; omega), List.getElem?_set_ne z, List.getElem?_append_left (by simp; omega), List.getElem?_set_ne z, List.getElem?_append_left h]
def sp3 : mv_Sp := fun As sh M Q => ∃ a t : Nat, As = [.ref a, .ref t] ∧ sh.length = a + 1 ∧ a < 800 ∧ sh[a]? = some (.inr (.inl (2, [some .null, some .null, none]))) ∧ nz (a + 1) M ∧ ∀ M', nz (a + 8) M' → Q none (cs3 sh a t) M'
theorem ct3 {S : Nat → mv_Sp} (h2 : S 2 = sp2) : ∀ As sh M P, sp3 As sh M P → (mv_al0 As).length ≤ 2 ∧ mr3 S P 0 (mv_ent As 2) [] sh M 0 0 := by
  rintro As sh M P ⟨a, t, rfl, l0, ha, g0, hz, hQ⟩
  refine ⟨Nat.le_of_ble_eq_true rfl, ?_⟩
  show mr3 S P 0 [some (.ref a), some (.ref t)] [] sh M 0 0
  have l1 : (sh ++ [.inr (.inl (1, [none, none, none, none, some .null, some .null, some .null, some .null, some .null, some .null]))] : mv_Shp).length = a + 2 := sa_len l0
  have g1 : (sh ++ [.inr (.inl (1, [none, none, none, none, some .null, some .null, some .null, some .null, some .null, some .null]))] : mv_Shp)[a + 1]? = some (.inr (.inl (1, [none, none, none, none, some .null, some .null, some .null, some .null, some .null, some .null]))) := by
    rw [List.getElem?_append_right (by omega), l0, Nat.sub_self]; rfl
  have g2 : (sh ++ [.inr (.inl (1, [none, none, none, none, some .null, some .null, some .null, some .null, some .null, some .null]))] : mv_Shp)[a]? = some (.inr (.inl (2, [some .null, some .null, none]))) := (sa_lo (by omega)).trans g0
  have o := isO_of g1
  unfold cs3 at hQ
  simp (disch := first | assumption | omega) only [e3_0, e3_1, e3_4, e3_5, e3_8, e3_9, e3_8r, q_gv0, q_gvs, q_isI1, q_isA1, q_hs0, q_hsn, q_hsi, q_hsr, q_hss, q_inc1, List.set_cons_zero, List.set_cons_succ, ↓reduceIte, q_ss0, q_ssi, q_ssr, q_nr0, q_nr10, q_nr11, q_tlS, q_tlN, q_cl, q_let, q_lef, q_ltt, q_ltf, q_eqt, q_eqf, q_add, q_mul, Nat.reduceAdd, Nat.reduceLeDiff, Nat.reduceEqDiff, eq_self, Nat.zero_le, Nat.le_refl, not_false_eq_true, not_true_eq_false, true_and, and_true, and_self, if_true, if_false, Nat.add_zero, Nat.zero_add, l0, o]
  generalize (sh ++ [.inr (.inl (1, [none, none, none, none, some .null, some .null, some .null, some .null, some .null, some .null]))] : mv_Shp) = s1 at l1 g1 g2 hQ o ⊢
  refine ⟨by omega, kal_of ?_⟩
  rw [h2]
  refine ⟨a + 1, rfl, l1, by omega, g1, nz_wr hz rfl, fun M' z => ?_⟩
  show mr3 S P 12 [some (.ref a), some (.ref t)] [.ref (a + 1), .ref a] (cs2 s1 (a + 1)) M' _ _
  have g3 : (cs2 s1 (a + 1))[a]? = some (.inr (.inl (2, [some .null, some .null, none]))) := (cs2_lo (by omega) (by omega)).trans g2
  have l3 := cs2_len (a := a + 1) l1
  have r1 : ∀ {M : mv_Mem} {K : mv_Kt} {pc : Nat} {L : mv_Loc} {st : List Value} {c s : Nat}, mv_kpr (cs2 s1 (a + 1)) M a 2 1 (a + 1) K pc L st c s = K pc L st ((cs2 s1 (a + 1)).set a (.inr (.inl (2, [some .null, some (.ref (a + 1)), none])))) M c s := fun {M K pc L st c s} => kpr_of g3 rfl
  have g4 : ((cs2 s1 (a + 1)).set a (.inr (.inl (2, [some .null, some (.ref (a + 1)), none]))))[a]? = some (.inr (.inl (2, [some .null, some (.ref (a + 1)), none]))) := ss_at (by omega)
  have r2 : ∀ {M : mv_Mem} {K : mv_Kt} {pc : Nat} {L : mv_Loc} {st : List Value} {c s : Nat}, mv_kpr ((cs2 s1 (a + 1)).set a (.inr (.inl (2, [some .null, some (.ref (a + 1)), none])))) M a 2 0 t K pc L st c s = K pc L st (((cs2 s1 (a + 1)).set a (.inr (.inl (2, [some .null, some (.ref (a + 1)), none])))).set a (.inr (.inl (2, [some (.ref t), some (.ref (a + 1)), none])))) M c s := fun {M K pc L st c s} => kpr_of g4 rfl
  simp (disch := first | assumption | omega) only [e3_0, e3_1, e3_4, e3_5, e3_8, e3_8r, e3_9, e3_12, e3_15, e3_16, e3_17, e3_20, q_gv0, q_gvs, q_isI1, q_isA1, q_hs0, q_hsn, q_hsi, q_hsr, q_hss, q_inc1, List.set_cons_zero, List.set_cons_succ, ↓reduceIte, q_ss0, q_ssi, q_ssr, q_nr0, q_nr10, q_nr11, q_tlS, q_tlN, q_cl, q_let, q_lef, q_ltt, q_ltf, q_eqt, q_eqf, q_add, q_mul, Nat.reduceAdd, Nat.reduceLeDiff, Nat.reduceEqDiff, eq_self, Nat.zero_le, Nat.le_refl, not_false_eq_true, not_true_eq_false, true_and, and_true, and_self, if_true, if_false, r1, r2]
  exact hQ M' z
/-! the first text put down -/
theorem q_kcr {sh : mv_Shp} {M : mv_Mem} {d : Nat} {K : mv_Kt} {pc : Nat} {L : mv_Loc} {st : List Value} {c s : Nat} (h1 : sh[d]? = some (.inl (1, 96))) :
    mv_kcr sh M 1001 (nI 0) d (nI 0) (nI 96) K pc L st c s = (mv_ss st ≤ 8 ∧ K pc L st sh (mv_wr M d (va_cpy (fun j => mv_bytes.getD j 0) (M d) 0 0 96)) c s) := by
  unfold mv_kcr mv_nums
  rw [h1]; dsimp only
  rw [q_cl (a := 0) (by omega), q_cl (a := 96) (by omega)]
  apply propext
  constructor
  · rintro ⟨h, k⟩; exact ⟨h.1, k⟩
  · rintro ⟨h, k⟩
    exact ⟨⟨h, rfl, rfl, nI_pos (by decide), nI_pos (by decide), nI_pos (by decide), by decide, by decide⟩, k⟩
def sp6 : mv_Sp := fun As sh M Q => As = [.ref 1000] ∧ Q (some (.int (nI 0))) sh M
theorem cl6 {S : Nat → mv_Sp} (hS : S 6 = sp6) {sh : mv_Shp} {M : mv_Mem} {K : mv_Kt} {pc : Nat} {L : mv_Loc} {st : List Value} {c s : Nat} : mv_kal S 6 [.ref 1000] sh M K pc L st c s = K pc L ((some (.int (nI 0))).toList ++ st) sh M c s := by
  refine q_kal (fun F => q_cali (fun Q => ?_))
  rw [hS]
  exact ⟨fun h => h.2, fun h => ⟨rfl, h⟩⟩
theorem ct6 {S : Nat → mv_Sp} : ∀ As sh M P, sp6 As sh M P → (mv_al0 As).length ≤ 1 ∧ mr6 S P 0 (mv_ent As 1) [] sh M 0 0 := by
  rintro As sh M P ⟨rfl, hQ⟩
  refine ⟨Nat.le_of_ble_eq_true rfl, ?_⟩
  show mr6 S P 0 [some (.ref 1000)] [] sh M 0 0
  have n3 : mv_nr 3 (nI 0) = True := eq_true (show (nI 0).toInt8.toInt32 = nI 0 by decide)
  simp (disch := first | assumption | omega) only [e6_0, e6_3, e6_6, e6_7, e6_10, e6_13, e6_14, q_gv0, q_gvs, q_isI1, q_isA1, q_hs0, q_hsn, q_hsi, q_hsr, q_hss, q_inc1, List.set_cons_zero, List.set_cons_succ, ↓reduceIte, q_ss0, q_ssi, q_ssr, q_nr0, q_nr10, q_nr11, q_tlS, q_tlN, q_cl, q_let, q_lef, q_ltt, q_ltf, q_eqt, q_eqf, q_add, q_mul, Nat.reduceAdd, Nat.reduceLeDiff, Nat.reduceEqDiff, eq_self, Nat.zero_le, Nat.le_refl, not_false_eq_true, not_true_eq_false, true_and, and_true, and_self, if_true, if_false, n3]
  exact hQ
def sp7 : mv_Sp := fun As sh M Q => As = [.ref 1000] ∧ Q (some (.int (nI 96))) sh M
theorem cl7 {S : Nat → mv_Sp} (hS : S 7 = sp7) {sh : mv_Shp} {M : mv_Mem} {K : mv_Kt} {pc : Nat} {L : mv_Loc} {st : List Value} {c s : Nat} : mv_kal S 7 [.ref 1000] sh M K pc L st c s = K pc L ((some (.int (nI 96))).toList ++ st) sh M c s := by
  refine q_kal (fun F => q_cali (fun Q => ?_))
  rw [hS]
  exact ⟨fun h => h.2, fun h => ⟨rfl, h⟩⟩
theorem ct7 {S : Nat → mv_Sp} (h6 : S 6 = sp6) : ∀ As sh M P, sp7 As sh M P → (mv_al0 As).length ≤ 1 ∧ mr7 S P 0 (mv_ent As 1) [] sh M 0 0 := by
  rintro As sh M P ⟨rfl, hQ⟩
  refine ⟨Nat.le_of_ble_eq_true rfl, ?_⟩
  show mr7 S P 0 [some (.ref 1000)] [] sh M 0 0
  simp (disch := first | assumption | omega) only [e7_0, e7_1, e7_4, e7_5, e7_6, e7_9, e7_10, q_gv0, q_gvs, q_isI1, q_isA1, q_hs0, q_hsn, q_hsi, q_hsr, q_hss, q_inc1, List.set_cons_zero, List.set_cons_succ, ↓reduceIte, q_ss0, q_ssi, q_ssr, q_nr0, q_nr10, q_nr11, q_tlS, q_tlN, q_cl, q_let, q_lef, q_ltt, q_ltf, q_eqt, q_eqf, q_add, q_mul, Nat.reduceAdd, Nat.reduceLeDiff, Nat.reduceEqDiff, eq_self, Nat.zero_le, Nat.le_refl, not_false_eq_true, not_true_eq_false, true_and, and_true, and_self, if_true, if_false, cl6 h6, q_shr0]
  exact hQ
/-- the builder grown -/
def oG (sh : mv_Shp) : Prop := sh[1]? = some (.inr (.inl (6, [some (.ref 61), none, none, none]))) ∧ sh[61]? = some (.inl (1, 96))
def sp13 : mv_Sp := fun As sh M Q => As = [.ref 1, .ref 1000] ∧ oG sh ∧ M 1 1 = nI 0 ∧ Q none sh M
theorem cl13 {S : Nat → mv_Sp} (hS : S 13 = sp13) {sh : mv_Shp} {M : mv_Mem} {K : mv_Kt} {pc : Nat} {L : mv_Loc} {st : List Value} {c s : Nat} (p1 : oG sh) (p2 : M 1 1 = nI 0) : mv_kal S 13 [.ref 1, .ref 1000] sh M K pc L st c s = K pc L ((none : Option Value).toList ++ st) sh M c s := by
  refine q_kal (fun F => q_cali (fun Q => ?_))
  rw [hS]
  exact ⟨fun h => h.2.2.2, fun h => ⟨rfl, p1, p2, h⟩⟩
theorem oG.g1 {sh : mv_Shp} {M : mv_Mem} {j : Nat} {K : mv_Kt} {pc : Nat} {L : mv_Loc} {st : List Value} {c s : Nat} (h : oG sh) (hj : j = 1 ∨ j = 3) : mv_kgf sh M 1 6 j K pc L st c s = K pc L (.int (M 1 j) :: st) sh M c s := by
  unfold mv_kgf mv_gf
  rw [h.1]
  rcases hj with rfl | rfl <;> simp
theorem ct13 {S : Nat → mv_Sp} (h6 : S 6 = sp6) : ∀ As sh M P, sp13 As sh M P → (mv_al0 As).length ≤ 2 ∧ mr13 S P 0 (mv_ent As 2) [] sh M 0 0 := by
  rintro As sh M P ⟨rfl, p1, p2, hQ⟩
  refine ⟨Nat.le_of_ble_eq_true rfl, ?_⟩
  show mr13 S P 0 [some (.ref 1), some (.ref 1000)] [] sh M 0 0
  have z1 : (1 : Nat) = 1 ∨ (1 : Nat) = 3 := by decide
  simp (disch := first | assumption | omega) only [e13_0, e13_3, e13_6, e13_7, e13_10, e13_11, e13_14, e13_17, e13_21, q_gv0, q_gvs, q_isI1, q_isA1, q_hs0, q_hsn, q_hsi, q_hsr, q_hss, q_inc1, List.set_cons_zero, List.set_cons_succ, ↓reduceIte, q_ss0, q_ssi, q_ssr, q_nr0, q_nr10, q_nr11, q_tlS, q_tlN, q_cl, q_let, q_lef, q_ltt, q_ltf, q_eqt, q_eqf, q_add, q_mul, Nat.reduceAdd, Nat.reduceLeDiff, Nat.reduceEqDiff, eq_self, Nat.zero_le, Nat.le_refl, not_false_eq_true, not_true_eq_false, true_and, and_true, and_self, if_true, if_false, p1.g1 z1, p2, cl6 h6]
  exact hQ
def ptM (M : mv_Mem) : mv_Mem := mv_wr M 61 (va_cpy (fun j => mv_bytes.getD j 0) (M 61) 0 0 96)
def sp14 : mv_Sp := fun As sh M Q => As = [.ref 1000, .ref 61, .int (nI 0), .int (nI 0)] ∧ oG sh ∧ Q none sh (ptM M)
theorem cl14 {S : Nat → mv_Sp} (hS : S 14 = sp14) {sh : mv_Shp} {M : mv_Mem} {K : mv_Kt} {pc : Nat} {L : mv_Loc} {st : List Value} {c s : Nat} (p1 : oG sh) : mv_kal S 14 [.ref 1000, .ref 61, .int (nI 0), .int (nI 0)] sh M K pc L st c s = K pc L ((none : Option Value).toList ++ st) sh (ptM M) c s := by
  refine q_kal (fun F => q_cali (fun Q => ?_))
  rw [hS]
  exact ⟨fun h => h.2.2, fun h => ⟨rfl, p1, h⟩⟩
theorem sl00 : nI 0 <<< (nI 0 &&& 31) = nI 0 := by decide +kernel
theorem ct14 {S : Nat → mv_Sp} (h6 : S 6 = sp6) : ∀ As sh M P, sp14 As sh M P → (mv_al0 As).length ≤ 4 ∧ mr14 S P 0 (mv_ent As 4) [] sh M 0 0 := by
  rintro As sh M P ⟨rfl, p1, hQ⟩
  refine ⟨Nat.le_of_ble_eq_true rfl, ?_⟩
  show mr14 S P 0 [some (.ref 1000), some (.ref 61), some (.int (nI 0)), some (.int (nI 0))] [] sh M 0 0
  simp (disch := first | assumption | omega) only [e14_0, e14_1, e14_4, e14_5, e14_8, e14_9, e14_12, e14_13, e14_14, e14_15, e14_16, e14_17, e14_18, e14_21, e14_22, e14_25, e14_28, e14_29, e14_32, e14_33, e14_34, e14_35, e14_36, e14_39, e14_43, q_gv0, q_gvs, q_isI1, q_isA1, q_hs0, q_hsn, q_hsi, q_hsr, q_hss, q_inc1, List.set_cons_zero, List.set_cons_succ, ↓reduceIte, q_ss0, q_ssi, q_ssr, q_nr0, q_nr10, q_nr11, q_tlS, q_tlN, q_cl, q_let, q_lef, q_ltt, q_ltf, q_eqt, q_eqf, q_add, q_mul, Nat.reduceAdd, Nat.reduceLeDiff, Nat.reduceEqDiff, eq_self, Nat.zero_le, Nat.le_refl, not_false_eq_true, not_true_eq_false, true_and, and_true, and_self, if_true, if_false, cl6 h6, sl00, q_kcr p1.2]
  exact hQ
def sp15 : mv_Sp := fun As sh M Q => As = [.ref 1, .int (nI 0), .ref 1000] ∧ oG sh ∧ M 1 1 = nI 0 ∧ Q none sh (ptM M)
theorem cl15 {S : Nat → mv_Sp} (hS : S 15 = sp15) {sh : mv_Shp} {M : mv_Mem} {K : mv_Kt} {pc : Nat} {L : mv_Loc} {st : List Value} {c s : Nat} (p1 : oG sh) (p2 : M 1 1 = nI 0) : mv_kal S 15 [.ref 1, .int (nI 0), .ref 1000] sh M K pc L st c s = K pc L ((none : Option Value).toList ++ st) sh (ptM M) c s := by
  refine q_kal (fun F => q_cali (fun Q => ?_))
  rw [hS]
  exact ⟨fun h => h.2.2.2, fun h => ⟨rfl, p1, p2, h⟩⟩
theorem ct15 {S : Nat → mv_Sp} (h13 : S 13 = sp13) (h14 : S 14 = sp14) : ∀ As sh M P, sp15 As sh M P → (mv_al0 As).length ≤ 3 ∧ mr15 S P 0 (mv_ent As 3) [] sh M 0 0 := by
  rintro As sh M P ⟨rfl, p1, p2, hQ⟩
  refine ⟨Nat.le_of_ble_eq_true rfl, ?_⟩
  show mr15 S P 0 [some (.ref 1), some (.int (nI 0)), some (.ref 1000)] [] sh M 0 0
  have z1 : (1 : Nat) = 1 ∨ (1 : Nat) = 3 := by decide
  have o := isO_of p1.1
  have g0 : ∀ {M : mv_Mem} {K : mv_Kt} {pc : Nat} {L : mv_Loc} {st : List Value} {c s : Nat}, mv_kgf sh M 1 6 0 K pc L st c s = K pc L (.ref 61 :: st) sh M c s := fun {M K pc L st c s} => kgr_of p1.1 rfl
  simp (disch := first | assumption | omega) only [e15_0, e15_1, e15_2, e15_5, e15_6, e15_7, e15_10, e15_11, e15_12, e15_15, e15_18, q_gv0, q_gvs, q_isI1, q_isA1, q_hs0, q_hsn, q_hsi, q_hsr, q_hss, q_inc1, List.set_cons_zero, List.set_cons_succ, ↓reduceIte, q_ss0, q_ssi, q_ssr, q_nr0, q_nr10, q_nr11, q_tlS, q_tlN, q_cl, q_let, q_lef, q_ltt, q_ltf, q_eqt, q_eqf, q_add, q_mul, Nat.reduceAdd, Nat.reduceLeDiff, Nat.reduceEqDiff, eq_self, Nat.zero_le, Nat.le_refl, not_false_eq_true, not_true_eq_false, true_and, and_true, and_self, if_true, if_false, o, g0, p1.g1 z1, p2, cl13 h13, cl14 h14]
  exact hQ
def sp16 : mv_Sp := fun As sh M Q => As = [.ref 1, .ref 1000] ∧ oY sh ∧ M 1 1 = nI 0 ∧ M 1 3 = nI 0 ∧ (∀ i, i < 16 → M 2 i = nI 0) ∧ ∀ M', (∀ b, b < 61 → ¬ b = 1 → M' b = M b) → (∀ j, ¬ j = 3 → M' 1 j = M 1 j) → M' 1 3 = nI 96 → (∀ j, j < 96 → M' 61 j = mv_bytes.getD j 0) → Q (some (.ref 1)) (gwS sh) M'
theorem oG_gw {sh : mv_Shp} (h : oY sh) : oG (gwS sh) := by
  have l := sa_len (e := .inl (1, 96)) h.2.2
  refine ⟨ss_at (by show 1 < (sh ++ [(.inl (1, 96) : mv_Sh1)]).length; rw [l]; decide), ?_⟩
  unfold gwS
  rw [List.getElem?_set_ne (by decide)]
  exact gwA_hi h.2.2
theorem ct16 {S : Nat → mv_Sp} (h7 : S 7 = sp7) (h12 : S 12 = sp12) (h15 : S 15 = sp15) : ∀ As sh M P, sp16 As sh M P → (mv_al0 As).length ≤ 3 ∧ mr16 S P 0 (mv_ent As 3) [] sh M 0 0 := by
  rintro As sh M P ⟨rfl, p1, p2, p3, p4, hQ⟩
  refine ⟨Nat.le_of_ble_eq_true rfl, ?_⟩
  show mr16 S P 0 [some (.ref 1), some (.ref 1000), none] [] sh M 0 0
  have o1 := p1.o1
  have g3 : ∀ {M : mv_Mem} {K : mv_Kt} {pc : Nat} {L : mv_Loc} {st : List Value} {c s : Nat}, mv_kgf sh M 1 6 3 K pc L st c s = K pc L (.int (M 1 3) :: st) sh M c s := by
    intro M K pc L st c s
    unfold mv_kgf mv_gf
    rw [p1.1]; simp
  simp (disch := first | assumption | omega) only [e16_0, e16_1, e16_9, e16_10, e16_13, e16_14, e16_15, e16_16, e16_19, e16_20, e16_21, q_gv0, q_gvs, q_isI1, q_isA1, q_hs0, q_hsn, q_hsi, q_hsr, q_hss, q_inc1, List.set_cons_zero, List.set_cons_succ, ↓reduceIte, q_ss0, q_ssi, q_ssr, q_nr0, q_nr10, q_nr11, q_tlS, q_tlN, q_cl, q_let, q_lef, q_ltt, q_ltf, q_eqt, q_eqf, q_add, q_mul, Nat.reduceAdd, Nat.reduceLeDiff, Nat.reduceEqDiff, eq_self, Nat.zero_le, Nat.le_refl, not_false_eq_true, not_true_eq_false, true_and, and_true, and_self, if_true, if_false, cl7 h7, g3, p3, Nat.zero_add, o1]
  refine cg12 h12 p1 p2 p4 (fun M' m1 m2 => ?_)
  show mr16 S P 24 [some (.ref 1), some (.ref 1000), some (.int (nI 96))] [] (gwS sh) M' _ _
  have og := oG_gw p1
  have o := isO_of og.1
  have z3 : (3 : Nat) = 1 ∨ (3 : Nat) = 3 := by decide
  have e1 : M' 1 1 = nI 0 := by rw [m1 1 (by decide)]; exact p2
  have e3 : M' 1 3 = nI 0 := by rw [m1 1 (by decide)]; exact p3
  have e4 : ptM M' 1 3 = nI 0 := by unfold ptM; rw [q_wrO (by decide)]; exact e3
  have r1 : ∀ {M : mv_Mem} {x : Int32} {K : mv_Kt} {pc : Nat} {L : mv_Loc} {st : List Value} {c s : Nat}, mv_kpf (gwS sh) M 1 6 3 x K pc L st c s = K pc L st (gwS sh) (mv_up M 1 3 x) c s := fun {M x K pc L st c s} => kpf_of og.1 rfl
  simp (disch := first | assumption | omega) only [e16_24, e16_25, e16_26, e16_29, e16_30, e16_33, e16_35, e16_38, e16_39, e16_40, e16_43, e16_44, e16_34r, q_gv0, q_gvs, q_isI1, q_isA1, q_hs0, q_hsn, q_hsi, q_hsr, q_hss, q_inc1, List.set_cons_zero, List.set_cons_succ, ↓reduceIte, q_ss0, q_ssi, q_ssr, q_nr0, q_nr10, q_nr11, q_tlS, q_tlN, q_cl, q_let, q_lef, q_ltt, q_ltf, q_eqt, q_eqf, q_add, q_mul, Nat.reduceAdd, Nat.reduceLeDiff, Nat.reduceEqDiff, eq_self, Nat.zero_le, Nat.le_refl, not_false_eq_true, not_true_eq_false, true_and, and_true, and_self, if_true, if_false, o, og.g1 z3, e3, e4, cl15 h15, r1, Nat.zero_add]
  refine hQ _ (fun b hb h1 => ?_) (fun j hj => ?_) q_upS (fun j hj => ?_)
  · rw [q_upO h1]; unfold ptM; rw [q_wrO (by omega)]; exact m1 b hb
  · rw [q_upN (by omega)]; unfold ptM; rw [q_wrO (by decide), m1 1 (by decide)]
  · rw [q_upO (by decide)]; unfold ptM; rw [q_wrS]
    have := @cpy_in (fun j => mv_bytes.getD j 0) (M' 61) 0 0 96 j hj
    rw [Nat.zero_add] at this
    exact this
def sp17 : mv_Sp := sp16
theorem ct17 {S : Nat → mv_Sp} (h16 : S 16 = sp16) : ∀ As sh M P, sp17 As sh M P → (mv_al0 As).length ≤ 2 ∧ mr17 S P 0 (mv_ent As 2) [] sh M 0 0 := by
  rintro As sh M P ⟨rfl, p1, p2, p3, p4, hQ⟩
  refine ⟨Nat.le_of_ble_eq_true rfl, ?_⟩
  show mr17 S P 0 [some (.ref 1), some (.ref 1000)] [] sh M 0 0
  have o1 := p1.o1
  simp (disch := first | assumption | omega) only [e17_0, e17_1, e17_2, e17_5, e17_5r, e17_6, e17_7, q_gv0, q_gvs, q_isI1, q_isA1, q_hs0, q_hsn, q_hsi, q_hsr, q_hss, q_inc1, List.set_cons_zero, List.set_cons_succ, ↓reduceIte, q_ss0, q_ssi, q_ssr, q_nr0, q_nr10, q_nr11, q_tlS, q_tlN, q_cl, q_let, q_lef, q_ltt, q_ltf, q_eqt, q_eqf, q_add, q_mul, Nat.reduceAdd, Nat.reduceLeDiff, Nat.reduceEqDiff, eq_self, Nat.zero_le, Nat.le_refl, not_false_eq_true, not_true_eq_false, true_and, and_true, and_self, if_true, if_false, Nat.zero_add, o1]
  refine kal_of ?_
  rw [h16]
  refine ⟨rfl, p1, p2, p3, p4, fun M' a b c d => ?_⟩
  show mr17 S P 5 [some (.ref 1), some (.ref 1000)] [.ref 1] (gwS sh) M' _ _
  simp (disch := first | assumption | omega) only [e17_5r, e17_6, e17_7, q_gv0, q_gvs, q_isI1, q_isA1, q_hs0, q_hsn, q_hsi, q_hsr, q_hss, q_inc1, List.set_cons_zero, List.set_cons_succ, ↓reduceIte, q_ss0, q_ssi, q_ssr, q_nr0, q_nr10, q_nr11, q_tlS, q_tlN, q_cl, q_let, q_lef, q_ltt, q_ltf, q_eqt, q_eqf, q_add, q_mul, Nat.reduceAdd, Nat.reduceLeDiff, Nat.reduceEqDiff, eq_self, Nat.zero_le, Nat.le_refl, not_false_eq_true, not_true_eq_false, true_and, and_true, and_self, if_true, if_false]
  exact hQ M' a b c d
