/-! the law: its words and its beginning -/
theorem sel_sup {C : String} {y z : MethodName} {s : State} {args : Array Value} (hzy : z.cls = y.cls) (hy : y.cls ≠ "java/lang/invoke/MethodHandle" ∧ y.cls ≠ "java/lang/invoke/VarHandle")
    (hz : (Cond.selects C z z).before args s = true) (hpriv : (Cond.privateMethod y).before args s = true) (hinst : (Cond.instanceMethod y).before args s = true) : (Cond.selects C y y).before args s = true := by
  obtain ⟨c, r, m2, hc, -, hm2, -, k, hk, hni⟩ := Cond.selects_spec hz
  obtain ⟨mk, methM, hnamed, hmethM, -, -⟩ := Cond.instanceMethod_spec hinst
  have hfound : s.methodFound? y.cls y.name y.desc = some mk := State.methodFound?_of_named hnamed hy
  have h1 := findClass_of_methodNamed hnamed
  have h2 := findClass_of_methodNamed hm2
  rw [hzy] at h2
  have hcls : mk.cls = m2.cls := Option.some.inj (h1.symm.trans h2)
  have hsel : selectMethod {} s.vm c mk = .method mk := selectMethod_private hmethM (Cond.privateMethod_at hpriv mk methM hnamed hmethM)
  simp only [Cond.before, Cond.holds, Cond.value, hc, hfound, hnamed, hsel, hcls, hk]
  simp; exact hni
def lw_z : MethodName := ⟨"java/lang/AbstractStringBuilder", "isLatin1", "()Z"⟩
theorem lw_zin : Cond.selects "java/lang/StringBuilder" lw_z lw_z ∈ lw_tbl := by decide +kernel
theorem lw_xin : ∀ y ∈ mv_xm, y.cls = "java/lang/AbstractStringBuilder" ∧ Cond.privateMethod y ∈ lw_tbl ∧ Cond.instanceMethod y ∈ lw_tbl := by decide +kernel
section
variable {s : State} {args : Array Value}
theorem lw_all (hts : ∀ w ∈ lw_tbl, w.before args s = true) : ∀ w ∈ mv_all, w.before args s = true := by
  intro w hw
  rcases List.mem_append.mp hw with h | h
  · exact hts w h
  · obtain ⟨y, hy, rfl⟩ := List.mem_map.mp h
    obtain ⟨h1, h2, h3⟩ := lw_xin y hy
    exact sel_sup (z := lw_z) h1.symm (by rw [h1]; decide) (hts _ lw_zin) (hts _ h2) (hts _ h3)
theorem lw_tbm (hts : ∀ w ∈ lw_tbl, w.before args s = true) : ∀ w ∈ mv_tb, w.before args s = true := fun w hw => lw_all hts w (List.mem_filter.mp hw).1
theorem lw_nwm (hts : ∀ w ∈ lw_tbl, w.before args s = true) : ∀ w ∈ mv_nw, va_Nw w s := by
  intro w hw
  obtain ⟨h1, h2⟩ := List.mem_filter.mp hw
  have h3 := lw_all hts w h1
  cases w <;> first | exact absurd (show false = true from h2) (by decide) | exact va_Nw.of rfl h3
def lw_str : Term := Term.string "TurnedTablets" 60
theorem lw_cs : Cond.laysStatic "java/lang/String" "COMPACT_STRINGS" "Z" ∈ lw_tbl ∧ Cond.initialized "java/lang/String" ∈ lw_tbl ∧ Cond.laysStatic "jdk/internal/util/Preconditions" "SIOOBE_FORMATTER" "Ljava/util/function/BiFunction;" ∈ lw_tbl ∧ Cond.initialized "jdk/internal/util/Preconditions" ∈ lw_tbl ∧ Cond.arrayOver (.object "TurnedTablets$Cloth") ∈ lw_tbl ∧ Cond.stringRef "TurnedTablets" 60 mv_text ∈ lw_tbl ∧
    Cond.arrayClass .int ∈ lw_tbl ∧ Cond.arrayClass .byte ∈ lw_tbl ∧ Cond.arrayClass .boolean ∈ lw_tbl := by decide +kernel
theorem lw_K (hts : ∀ w ∈ lw_tbl, w.before args s = true) : ∃ (D : va_G) (cy : Nat → ClassId), va_K D mv_cl (mv_tys cy) s := by
  obtain ⟨-, -, -, -, c5, -, c7, c8, c9⟩ := lw_cs
  have htb := lw_tbm hts
  have hi : ∀ q ∈ mv_cl, Cond.instantiable q.1 q.2.2 ∈ lw_tbl := by decide +kernel
  have hk : ∀ k : Nat, ∃ z : ClassId × (Nat → Nat), ∀ q : vw_C, mv_cl[k]? = some q → u_Kn s q.1 q.2.1 q.2.2 z.1 z.2 := by
    intro k
    cases hq : mv_cl[k]? with
    | none => exact ⟨(0, fun _ => 0), fun q h => by cases h⟩
    | some q =>
      obtain ⟨cC, iS, h⟩ := u_known (N := q.2.2) (T := q.2.1) htb (mv_cl_words hq) (hts _ (hi q (List.mem_of_getElem? hq)))
      exact ⟨(cC, iS), fun q' h' => by cases h'; exact h⟩
  obtain ⟨f, hf⟩ := Classical.axiomOfChoice hk
  have arr : ∀ ty : FieldType, (Cond.arrayClass ty).before args s = true → (ty = .int ∨ ty = .byte ∨ ty = .boolean) → ∃ cA, ArrOfT s cA ty ∧ va_RA s cA ty := by
    intro ty h ht
    obtain ⟨c, k, comp, h1, h2, h3⟩ := Cond.arrayClass_spec h
    refine ⟨c, fun n z => ⟨(fun k hh => by rcases ht with rfl | rfl | rfl <;> cases hh), k, h2, comp, h3⟩, ?_⟩
    rcases ht with rfl | rfl | rfl <;> exact h1
  obtain ⟨c0, a0, b0⟩ := arr .int (hts _ c7) (Or.inl rfl)
  obtain ⟨c1, a1, b1⟩ := arr .byte (hts _ c8) (Or.inr (Or.inl rfl))
  obtain ⟨c2, a2, b2⟩ := arr .boolean (hts _ c9) (Or.inr (Or.inr rfl))
  obtain ⟨comp, c3, kA, h1, -, h3, h4, h5⟩ := Cond.arrayOver_spec (hts _ c5)
  refine ⟨(fun k => (f k).1, fun k => (f k).2), fun t => if t = 0 then c0 else if t = 1 then c1 else if t = 2 then c2 else c3, fun k q hq => hf k q hq, fun k q hq => ?_⟩
  match k, hq with
  | 0, hq => cases hq; exact ⟨a0, b0⟩
  | 1, hq => cases hq; exact ⟨a1, b1⟩
  | 2, hq => cases hq; exact ⟨a2, b2⟩
  | 3, hq => cases hq; exact ⟨fun N z => ⟨(fun k h => by cases h), kA, h3, comp, h4⟩, kA, comp, h3, h4, h1, h5⟩
  | k + 4, hq => simp [mv_tys] at hq
theorem lw_g1 : Cond.eq (.static "java/lang/String" "COMPACT_STRINGS" "Z") (.int 1) ∈ flatC (Jvm.Cond.and given_1 narrow_1) ∧ Cond.isRef (.static "jdk/internal/util/Preconditions" "SIOOBE_FORMATTER" "Ljava/util/function/BiFunction;") ∈ flatC (Jvm.Cond.and given_1 narrow_1) ∧ Cond.exactly lw_str "java/lang/String" ∈ flatC (Jvm.Cond.and given_1 narrow_1) ∧
    Cond.eq (.field lw_str "java/lang/String" "coder" "B") (.int 0) ∈ flatC (Jvm.Cond.and given_1 narrow_1) ∧ Cond.arrayOf (.field lw_str "java/lang/String" "value" "[B") .byte ∈ flatC (Jvm.Cond.and given_1 narrow_1) ∧ Cond.eq (.length (.field lw_str "java/lang/String" "value" "[B")) (.int (Int32.ofNat 96)) ∈ flatC (Jvm.Cond.and given_1 narrow_1) := by decide +kernel
theorem lw_g2 : ∀ j, j < 96 → Cond.eq (.elem (.field lw_str "java/lang/String" "value" "[B") (.int (Int32.ofNat j))) (.int (mv_bytes.getD j 0)) ∈ flatC (Jvm.Cond.and given_1 narrow_1) := by decide +kernel
theorem lw_G (hts : ∀ w ∈ lw_tbl, w.before args s = true) (hgv : (Jvm.Cond.and given_1 narrow_1).before args s = true) : ∃ a0 : Nat → Nat, mv_G a0 (fun q : Nat => s.heap.size ≤ q) s := by
  obtain ⟨c1, c2, c3, c4, c5, c6, -, -, -⟩ := lw_cs
  obtain ⟨g1, g2, g3, g4, g5, g6⟩ := lw_g1
  have hs := flat_of_before _ hgv
  have hA : ∀ a : Nat, a < s.heap.size → ¬ (fun q : Nat => s.heap.size ≤ q) a := fun a h z => absurd z (Nat.not_le.mpr h)
  have z1 : va_Z "java/lang/String" "COMPACT_STRINGS" "Z" (.int 1) (fun q : Nat => s.heap.size ≤ q) s s.heap := va_Zof (hts _ c1) (hts _ c2) (va_eqt (hs _ g1)) hA
  have z2 := va_Zqof (A := fun q : Nat => s.heap.size ≤ q) (hts _ c3) (hts _ c4) (hs _ g2) hA
  obtain ⟨adK, adV, k1, k2⟩ := vk_Sof (args := args) (s := s) (N := 1) (tm := fun _ => lw_str) (len := [96]) (byt := [mv_bytes]) (A := fun q : Nat => s.heap.size ≤ q)
    (fun i hi => by obtain rfl : i = 0 := by omega
                    decide) (fun i _ => hs _ g3) (fun i _ => hs _ g4) (fun i _ => hs _ g5)
    (fun i hi => by obtain rfl : i = 0 := by omega
                    exact hs _ g6)
    (fun i hi j hj => by obtain rfl : i = 0 := by omega
                         exact hs _ (lw_g2 j hj))
    (fun i j hi hj hne => absurd (show i = j by omega) hne) hA
  have k3 := k2 0 (by decide)
  obtain ⟨t, ht⟩ : ∃ t : Nat, va_Z "jdk/internal/util/Preconditions" "SIOOBE_FORMATTER" "Ljava/util/function/BiFunction;" (.ref t) (fun q : Nat => s.heap.size ≤ q) s s.heap ∨ va_Z "jdk/internal/util/Preconditions" "SIOOBE_FORMATTER" "Ljava/util/function/BiFunction;" .null (fun q : Nat => s.heap.size ≤ q) s s.heap := by
    rcases z2 with z | ⟨t, z⟩
    · exact ⟨0, Or.inr z⟩
    · exact ⟨t, Or.inl z⟩
  refine ⟨fun k => if k = 1000 then adK 0 else if k = 1001 then adV 0 else t, lw_nwm hts, z1, ht, va_AO.of (hts _ c5), ?_, fun i hi => ?_, fun i j hi hj _ => by omega⟩
  · exact vk_R.of (A := args) (hts _ c6) k3
  · obtain rfl : i = 0 := by omega
    exact k1.1 0 hi
end
