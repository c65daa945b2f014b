/-! the soundness of the steps, one instruction after the other -/
section CORE
variable {p : Program} {l : Launch} {e : Env} {s : State} {m : MethodId} {args : Array Value} {below : List Frame} {meth : Method} {c : Code}
def mv_X (p : Program) (l : Launch) (e : Env) (s : State) (m : MethodId) (args : Array Value) (below : List Frame) (meth : Method) (c : Code) (R : Jvm.Room) (nL : Nat) (D : va_G) (cy : Nat → ClassId) (ad0 : Nat → Nat) (sh0 : mv_Shp) (A : Nat → Prop) (P : mv_Post) : mv_Kt := fun pc L st sh M c1 s1 =>
  ∀ (ad : Nat → Nat) (H : Heap) (locs : List Loc) (ls : Array Slot), va_P D mv_cl (mv_ws cy ad sh M) H → va_D A (mv_ws cy ad sh M) → va_S A s.heap H locs → mv_wf sh → sh0.length ≤ sh.length → (∀ k, k < sh0.length ∨ 1000 ≤ k → ad k = ad0 k) → mv_lk ad sh.length ls L nL → mv_vs sh.length st → c1 ≤ R.cells → s1 ≤ R.slots →
    W p l e R s m args below meth c H locs c1 s1 (MQ below (mv_Qc D cy ad0 sh0 A P) args s R.cells R.slots A) (F0 m pc ls (st.map (mv_rv ad)))
theorem mv_tgt_out {pc : Nat} {off : Int} {t : Nat} (h : mv_tgt pc off t = true) : (pc : Int) + off = (t : Int) := of_decide_eq_true h
theorem mv_sw_out {pc : Nat} {x : Int32} {K : Nat → Prop} {Go : Nat → Prop} (hG : ∀ t, K t → Go t) {off : Int → Prop} : ∀ (lo : Int) (offs : List Int) (ts : List Nat) (d : Nat), mv_tgts pc offs ts = true → -1000 ≤ lo → lo + offs.length ≤ 2001 → mv_sw x lo ts d K →
    ((x.toInt < lo ∨ lo + (offs.length : Int) ≤ x.toInt) → Go d) ∧ (lo ≤ x.toInt → x.toInt < lo + offs.length → ∃ (o : Int) (t : Nat), offs[(x.toInt - lo).toNat]? = some o ∧ (pc : Int) + o = (t : Int) ∧ Go t)
  | lo, [], [], d, _, _, _, h => ⟨fun _ => hG _ h, fun h1 h2 => by simp at h2; omega⟩
  | lo, o :: os, t :: ts, d, hp, h1, h2, h => by
    rw [mv_tgts, Bool.and_eq_true] at hp
    rw [List.length_cons] at h2
    have ih := mv_sw_out (x := x) hG (off := off) (lo + 1) os ts d hp.2 (by omega) (by omega)
    have hx : x = Int32.ofInt lo ↔ x.toInt = lo := by
      constructor
      · rintro rfl
        exact Int32.toInt_ofInt_of_le (by omega) (by omega)
      · rintro rfl
        exact (Int32.ofInt_toInt x).symm
    have hne : ¬ x.toInt = lo → mv_sw x (lo + 1) ts d K := fun z => h.2 (fun w => z (hx.mp w))
    refine ⟨fun hh => ?_, fun ha hb => ?_⟩
    · rw [List.length_cons] at hh
      have z : ¬ x.toInt = lo := by omega
      exact (ih (hne z)).1 (by omega)
    · rw [List.length_cons] at hb
      by_cases z : x.toInt = lo
      · refine ⟨o, t, ?_, mv_tgt_out hp.1, hG _ (h.1 (hx.mpr z))⟩
        rw [z, Int.sub_self]; rfl
      · obtain ⟨o', t', g1, g2, g3⟩ := (ih (hne z)).2 (by omega) (by omega)
        refine ⟨o', t', ?_, g2, g3⟩
        rw [show (x.toInt - lo).toNat = (x.toInt - (lo + 1)).toNat + 1 by omega, List.getElem?_cons_succ]
        exact g1
  | _, [], _ :: _, _, hp, _, _, _ => by simp [mv_tgts] at hp
  | _, _ :: _, [], _, hp, _, _, _ => by simp [mv_tgts] at hp
theorem mv_ls_out {pc : Nat} {x : Int32} {K : Nat → Prop} {Go : Nat → Prop} (hG : ∀ t, K t → Go t) {dd : Int} {d : Nat} (hd : (pc : Int) + dd = (d : Int)) : ∀ (ps : List (Int × Int)) (ts : List Nat), mv_tgts pc (ps.map Prod.snd) ts = true → ps.all (fun a => decide (0 ≤ a.1 ∧ a.1 ≤ 1000)) = true → mv_ls x ((ps.map Prod.fst).zip ts) d K →
    ∃ t : Nat, (pc : Int) + lookupswitch.offset ps dd x.toInt = (t : Int) ∧ Go t
  | [], [], _, _, h => ⟨d, hd, hG _ h⟩
  | (a, o) :: ps, t :: ts, hp, ha, h => by
    rw [List.map_cons, mv_tgts, Bool.and_eq_true] at hp
    rw [List.all_cons, Bool.and_eq_true] at ha
    have ha1 : 0 ≤ a ∧ a ≤ 1000 := of_decide_eq_true ha.1
    have hx : x = Int32.ofInt a ↔ a = x.toInt := by
      constructor
      · rintro rfl
        exact (Int32.toInt_ofInt_of_le (by omega) (by omega)).symm
      · rintro rfl
        exact (Int32.ofInt_toInt x).symm
    rw [lookupswitch.offset_cons]
    by_cases z : a = x.toInt
    · rw [if_pos z]
      exact ⟨t, mv_tgt_out hp.1, hG _ (h.1 (hx.mpr z))⟩
    · rw [if_neg z]
      exact mv_ls_out hG hd ps ts hp.2 ha.2 (h.2 (fun w => z (hx.mp w)))
  | [], _ :: _, hp, _, _ => by simp [mv_tgts] at hp
  | _ :: _, [], hp, _, _ => by simp [mv_tgts] at hp
theorem mv_DF_ok : ∀ z ∈ (mv_cl.zip mv_ty).zip mv_DF, z.2.length = z.1.1.2.2 ∧ (∀ j, j < z.1.1.2.2 → defaultValue (z.1.2 j) = vp_V (mv_fs id (fun _ => 0) z.2) j) ∧ z.2.all (fun o => decide (o = none ∨ o = some .null)) = true := by decide +kernel
theorem mv_fs_null {ad : Nat → Nat} {f : Nat → Int32} {fs : List (Option Value)} (h : fs.all (fun o => decide (o = none ∨ o = some .null)) = true) : mv_fs ad f fs = mv_fs id f fs := by
  apply List.ext_getElem?
  intro j
  rw [mv_fs_get, mv_fs_get]
  cases hj : fs[j]? with
  | none => rfl
  | some o =>
    have := of_decide_eq_true (List.all_eq_true.mp h o (List.mem_of_getElem? hj))
    rcases this with rfl | rfl <;> rfl
end CORE
theorem mv_gpf_out {own nm : String} {ax : List Nat} {C : String} {T : u_T} {N : Nat} {v : Value} (h : mv_gpf own nm ax = true) (hc : mv_cl[mv_x2 ax]? = some (C, T, N)) (hj : mv_x3 ax < N) (hpk : mv_pk (mv_x4 ax) v) :
    ∃ ty0 : Nat → FieldType, (∀ k, k < N → parseFieldDescriptor (T k).2.2.1 = some (ty0 k)) ∧ parseFieldDescriptor (T (mv_x3 ax)).2.2.1 = some (ty0 (mv_x3 ax)) ∧ narrow (ty0 (mv_x3 ax)) v = v ∧ fits (ty0 (mv_x3 ax)) v = true ∧
      ((T (mv_x3 ax)).2.2.2 = false ∧ mv_x1 ax ≠ 2 ∨ mv_x1 ax = 2 ∧ (T (mv_x3 ax)).2.2.2 = true ∧ nm = "<init>" ∧ (T (mv_x3 ax)).1 = own) := by
  unfold mv_gpf at h
  rw [hc] at h
  split at h
  · rename_i C' T' N' t h1 h2
    cases h1
    rw [Bool.and_eq_true] at h
    have hz : ((C, T, N), t) ∈ mv_cl.zip mv_ty := by
      refine List.mem_of_getElem? (i := mv_x2 ax) ?_
      rw [List.getElem?_zip_eq_some]
      exact ⟨hc, h2⟩
    have hty := mv_cl_ty _ hz
    refine ⟨t, hty, hty _ hj, ?_⟩
    have key : narrow (t (mv_x3 ax)) v = v ∧ fits (t (mv_x3 ax)) v = true := by
      have h3 := h.2
      split at h3
      · rename_i q1 q2
        rw [q1] at hpk; rw [q2]
        cases v <;> first | exact hpk.elim | exact ⟨rfl, rfl⟩
      · rename_i q1 q2
        rw [q1] at hpk; rw [q2]
        cases v with
        | int x => rcases hpk with rfl | rfl <;> exact ⟨rfl, rfl⟩
        | _ => exact hpk.elim
      · rename_i q1 q2
        rw [q1] at hpk; rw [q2]
        cases v with
        | int x =>
          have hpk : x.toInt8.toInt32 = x := hpk
          rw [← hpk]
          exact ⟨pk_nb x, pk_fb x⟩
        | _ => exact hpk.elim
      · rename_i q1 q2
        rw [q1] at hpk; rw [q2]
        cases v <;> first | exact hpk.elim | exact ⟨rfl, rfl⟩
      · rename_i q1 q2
        rw [q1] at hpk; rw [q2]
        cases v <;> first | exact hpk.elim | exact ⟨rfl, rfl⟩
      · cases h3
    refine ⟨key.1, key.2, ?_⟩
    have h4 := h.1
    split at h4
    · rename_i q1
      rw [Bool.and_eq_true, Bool.and_eq_true] at h4
      exact Or.inr ⟨q1, h4.1.1, of_decide_eq_true h4.1.2, of_decide_eq_true h4.2⟩
    · rename_i q1
      exact Or.inl ⟨by simpa using h4, q1⟩
  · cases h
theorem mv_ret_out {ax : List Nat} {rt : Option FieldType} {v : Int32} (h : (match mv_x0 ax, rt with
    | 0, some .int => true
    | 1, some .boolean => true
    | 2, some .char => true
    | 3, some .byte => true
    | _, _ => false) = true) (hn : mv_nr (mv_x0 ax) v) : ∃ ty, rt = some ty ∧ narrow ty (.int v) = .int v := by
  split at h
  · exact ⟨_, rfl, rfl⟩
  · rename_i h1
    rw [h1] at hn
    refine ⟨_, rfl, ?_⟩
    rcases hn with rfl | rfl <;> rfl
  · rename_i h1
    rw [h1] at hn
    refine ⟨_, rfl, ?_⟩
    have hn : vp_nar .char v = v := hn
    have h2 := vp_nar_char v
    rw [hn] at h2
    show Value.int _ = Value.int v
    congr 1
    try exact h2.symm
  · rename_i h1
    rw [h1] at hn
    refine ⟨_, rfl, ?_⟩
    exact congrArg Value.int hn
  · cases h
