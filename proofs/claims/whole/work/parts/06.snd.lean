/-! the small machine is sound: what it comes to, the real one comes to -/
def mv_tys (cy : Nat → ClassId) : List (ClassId × FieldType) := [(cy 0, .int), (cy 1, .byte), (cy 2, .boolean), (cy 3, .object "TurnedTablets$Cloth")]
def mv_G (ad : Nat → Nat) (A : Nat → Prop) (U : State) : Prop := (∀ w ∈ mv_nw, va_Nw w U) ∧ va_Z "java/lang/String" "COMPACT_STRINGS" "Z" (.int 1) A U U.heap ∧ (va_Z "jdk/internal/util/Preconditions" "SIOOBE_FORMATTER" "Ljava/util/function/BiFunction;" (.ref (ad 2000)) A U U.heap ∨ va_Z "jdk/internal/util/Preconditions" "SIOOBE_FORMATTER" "Ljava/util/function/BiFunction;" .null A U U.heap) ∧ va_AO "TurnedTablets$Cloth" U ∧ vk_R "TurnedTablets" 60 mv_text (ad 1000) U ∧ vk_S 1 [96] [mv_bytes] (fun _ => ad 1000) (fun _ => ad 1001) A U U.heap
def mv_Pre (D : va_G) (cy : Nat → ClassId) (ad : Nat → Nat) (sh : mv_Shp) (M : mv_Mem) (sz : Nat) : State → Prop := fun U => U.heap.size = sz ∧ va_P D mv_cl (mv_ws cy ad sh M) U.heap ∧ va_K D mv_cl (mv_tys cy) U ∧ va_D (fun _ => True) (mv_ws cy ad sh M) ∧ mv_G ad (va_A (mv_ws cy ad sh M) sz) U
def mv_Qc (D : va_G) (cy : Nat → ClassId) (ad : Nat → Nat) (sh : mv_Shp) (A : Nat → Prop) (Q : mv_Post) : Array Value → State → Outcome → State → Prop := fun _ st oc t =>
  (∃ v sh' M' ad', Q v sh' M' ∧ oc = .returned (v.map (mv_rv ad')) ∧ (∀ k, k < sh.length ∨ 1000 ≤ k → ad' k = ad k) ∧ sh.length ≤ sh'.length ∧ mv_wf sh' ∧ (∀ x, v = some x → mv_vd sh'.length x) ∧ va_P D mv_cl (mv_ws cy ad' sh' M') t.heap ∧ va_D A (mv_ws cy ad' sh' M')) ∧ va_F A st t
def mv_wsk (m : mv_Mt) : List Cond := .code m.1 m.2.1 m.2.2.1 m.2.2.2.1 :: mv_tb
def mv_Ok (l : Launch) (k : Nat) (Sk : mv_Sp) : Prop := ∀ m, mv_meth[k]? = some m → ∀ args sh M Q, Sk args sh M Q → mv_wf sh → mv_vs sh.length args → ∀ D cy ad sz,
  Met l m.1 (mv_wsk m) m.2.2.2.2 (va_Pc (args.map (mv_rv ad)) (mv_Pre D cy ad sh M sz)) (mv_Qc D cy ad sh (va_A (mv_ws cy ad sh M) sz) Q) m.2.2.2.2.cells m.2.2.2.2.slots (va_A (mv_ws cy ad sh M) sz)
theorem mv_pre_blind {D : va_G} {cy : Nat → ClassId} {ad : Nat → Nat} {sh : mv_Shp} {M : mv_Mem} {sz : Nat} {av : List Value} : FrameBlind (va_Pc av (mv_Pre D cy ad sh M sz)) := by
  rintro a U g mk ⟨h0, h1, h2, h3, h4, h5, h6, h7, h8, h9, h10⟩
  refine ⟨h0, h1, h2, va_K.moved (u := U) (U := U.calling g mk a) (Vm.Alike.refl U.vm) h3, h4, fun w hw => ?_, va_Z.moved (u := U) (U := U.calling g mk a) (Vm.Alike.refl U.vm) h6, Or.imp (va_Z.moved (u := U) (U := U.calling g mk a) (Vm.Alike.refl U.vm)) (va_Z.moved (u := U) (U := U.calling g mk a) (Vm.Alike.refl U.vm)) h7, va_AO.moved (u := U) (U := U.calling g mk a) (Vm.Alike.refl U.vm) h8, vk_R.same (u := U) (U := U.calling g mk a) rfl h9, vk_S.moved (u := U) (U := U.calling g mk a) (Vm.Alike.refl U.vm) h10⟩
  have hn := (List.mem_filter.mp hw).2
  cases w <;> first | (exact absurd (show false = true from hn) (by decide)) | exact va_Nw.same rfl (u := U) (U := U.calling g mk a) rfl (h5 _ hw)
theorem mv_nw_warm {s U : State} (hW : s.WarmedH U.vm) (h : ∀ w ∈ mv_nw, va_Nw w s) : ∀ w ∈ mv_nw, va_Nw w U := by
  intro w hw
  have hn := (List.mem_filter.mp hw).2
  cases w <;> first | (exact absurd (show false = true from hn) (by decide)) | exact va_Nw.warmF hW (h _ hw) | exact va_Nw.warmM hW (h _ hw)
section CALLQ
variable {p : Program} {l : Launch} {e : Env} {R : Room} {s : State} {m : MethodId} {args : Array Value} {below : List Frame} {meth : Method} {c : Code} {H : Heap} {locs : List Loc} {cells slots : Nat} {Qt : State → Prop}
variable {pc : Nat} {ls : Array Slot} {rest st0 : List Value} {a : Array Value} {A0 A1 : Nat → Prop} {H0 : Heap} {mc ms : Nat} {free : Addr → Prop}
theorem mv_callQ {D : va_G} {cy : Nat → ClassId} {ad : Nat → Nat} {sh : mv_Shp} {Q : mv_Post} (hr : va_Run p l e R s m args below meth c H locs cells slots mc ms (F0 m pc ls st0) rest (mv_Qc D cy ad sh A1 Q a) free) (hS : va_S A0 H0 H locs) (hA : ∀ q, A1 q → A0 q) (hf : ∀ q, free q → A0 q)
    (kk : ∀ (v : Option Value) (sh' : mv_Shp) (M' : mv_Mem) (ad' : Nat → Nat) (H1 : Heap) (locs1 : List Loc), Q v sh' M' → (∀ k, k < sh.length ∨ 1000 ≤ k → ad' k = ad k) → sh.length ≤ sh'.length → mv_wf sh' → (∀ x, v = some x → mv_vd sh'.length x) → va_P D mv_cl (mv_ws cy ad' sh' M') H1 → va_D A0 (mv_ws cy ad' sh' M') → va_S A0 H0 H1 locs1 →
      W p l e R s m args below meth c H1 locs1 (cells + mc) (slots + ms) Qt (F0 m (pc + 3) ls ((v.map (mv_rv ad')).toList ++ rest))) : W p l e R s m args below meth c H locs cells slots Qt (F0 m pc ls st0) := by
  intro T hT X
  obtain ⟨v, st₀, t, T', L, h0, X', hL, e1, e2, ⟨⟨w, sh', M', ad', q1, hv, q2, q3, q4, q5, q6, q7⟩, hz, hk⟩, st⟩ := hr T hT X
  cases hv
  rw [h0] at hz hk
  rw [← e1] at q6
  obtain ⟨t2, a1, b1⟩ := kk w sh' M' ad' T'.heap (locs ++ L) q1 q2 q3 q4 q5 q6 (q7.weaken (fun k q _ h => hA _ h))
    ⟨Nat.le_trans hS.1 (by rw [e1]; exact hz), fun q h1 h2 => by rw [e1, hk q (Nat.lt_of_lt_of_le h1 hS.1) (fun z => h2 (hA q z))]; exact hS.2.1 q h1 h2, fun q hq => by
      rcases List.mem_append.mp hq with h | h
      · exact hS.2.2 q h
      · exact hf _ (hL q h)⟩ T' rfl X'
  exact ⟨t2, st t2 a1, b1⟩
end CALLQ
theorem mv_f_mem {cd : mv_Cd} {pc : Nat} {i : Instr} {len : Nat} {ax : List Nat} (h : mv_f cd pc = some (i, len, ax)) : (pc, i, len, ax) ∈ cd := by
  unfold mv_f at h
  rw [Option.map_eq_some_iff] at h
  obtain ⟨q, h1, h2⟩ := h
  have h3 := List.find?_some h1
  have h4 := List.mem_of_find?_eq_some h1
  obtain ⟨a, b⟩ := q
  simp only [beq_iff_eq] at h3
  subst h3
  subst h2
  exact h4
theorem mv_gf_out {sh : mv_Shp} {M : mv_Mem} {a ci j : Nat} {f : Value → Prop} (h : mv_gf sh M a ci j f) : ∃ (fs : List (Option Value)) (v : Value), sh[a]? = some (.inr (.inl (ci, fs))) ∧ ((fs[j]? = some none ∧ v = .int (M a j)) ∨ fs[j]? = some (some v)) ∧ f v := by
  unfold mv_gf at h
  split at h
  · rename_i ci' fs h1
    obtain ⟨rfl, h⟩ := h
    split at h
    · exact ⟨fs, _, h1, Or.inl ⟨by assumption, rfl⟩, h⟩
    · exact ⟨fs, _, h1, Or.inr (by assumption), h⟩
    · exact h.elim
  · exact h.elim
theorem mv_pf_out {sh : mv_Shp} {M : mv_Mem} {a ci j : Nat} {v : Value} {f : mv_Shp → mv_Mem → Prop} (h : mv_pf sh M a ci j v f) : ∃ fs : List (Option Value), sh[a]? = some (.inr (.inl (ci, fs))) ∧
    ((∃ x, v = .int x ∧ fs[j]? = some none ∧ f sh (mv_up M a j x)) ∨ (∃ b w, v = .ref b ∧ fs[j]? = some (some w) ∧ f (sh.set a (.inr (.inl (ci, fs.set j (some (.ref b)))))) M)) := by
  unfold mv_pf at h
  split at h
  · rename_i ci' fs h1
    obtain ⟨rfl, h⟩ := h
    split at h
    · exact ⟨fs, h1, Or.inl ⟨_, rfl, by assumption, h⟩⟩
    · exact ⟨fs, h1, Or.inr ⟨_, _, rfl, by assumption, h⟩⟩
    · exact h.elim
  · exact h.elim
theorem mv_fs_setI {ad : Nat → Nat} {f : Nat → Int32} {fs : List (Option Value)} {j : Nat} {x : Int32} (h : fs[j]? = some none) : (mv_fs ad f fs).set j (.int x) = mv_fs ad (upd f j x) fs := by
  apply List.ext_getElem?
  intro i
  rw [mv_fs_get]
  have hj := (List.getElem?_eq_some_iff.mp h).1
  by_cases hi : j = i
  · subst hi
    rw [List.getElem?_set_self (by rw [mv_fs, List.length_mapIdx]; exact hj), h]
    simp [upd]
  · rw [List.getElem?_set_ne hi, mv_fs_get]
    cases fs[i]? with
    | none => rfl
    | some o => cases o with
      | none => exact congrArg some (congrArg Value.int (show f i = upd f j x i from (if_neg (fun z => hi z.symm)).symm))
      | some v => rfl
theorem mv_fs_setR {ad : Nat → Nat} {f : Nat → Int32} {fs : List (Option Value)} {j : Nat} {w : Value} (h : j < fs.length) : (mv_fs ad f fs).set j (mv_rv ad w) = mv_fs ad f (fs.set j (some w)) := by
  apply List.ext_getElem?
  intro i
  rw [mv_fs_get]
  by_cases hi : j = i
  · subst hi
    rw [List.getElem?_set_self (by rw [mv_fs, List.length_mapIdx]; exact h), List.getElem?_set_self h]
    rfl
  · rw [List.getElem?_set_ne hi, mv_fs_get, List.getElem?_set_ne hi]
theorem mv_fs_len {ad : Nat → Nat} {f : Nat → Int32} {fs : List (Option Value)} : (mv_fs ad f fs).length = fs.length := by rw [mv_fs, List.length_mapIdx]
theorem mv_gfl_out {own : String} {ix : Nat} {ax : List Nat} (h : mv_gfl own ix ax = true) : ∃ C T N, mv_cl[mv_x2 ax]? = some (C, T, N) ∧ mv_x3 ax < N ∧
    (Cond.fieldLinkNest own ix (T (mv_x3 ax)).1 (T (mv_x3 ax)).2.1 (T (mv_x3 ax)).2.2.1 mv_host ∈ mv_nw ∧ mv_x1 ax = 1 ∨ Cond.fieldLink own ix (T (mv_x3 ax)).1 (T (mv_x3 ax)).2.1 (T (mv_x3 ax)).2.2.1 ∈ mv_tb ∧ mv_x1 ax ≠ 1) := by
  unfold mv_gfl at h
  split at h
  · rename_i C T N hc
    rw [Bool.and_eq_true] at h
    refine ⟨C, T, N, hc, of_decide_eq_true h.1, ?_⟩
    have h2 := h.2
    split at h2
    · rename_i h1
      exact Or.inl ⟨mv_nw_in (of_decide_eq_true h2) rfl, h1⟩
    · rename_i h1
      exact Or.inr ⟨mv_chk_in h2 _ List.mem_cons_self, h1⟩
  · cases h
theorem mv_cl_words {ci : Nat} {C : String} {T : u_T} {N : Nat} (h : mv_cl[ci]? = some (C, T, N)) : ∀ w ∈ u_ws C T N, w ∈ mv_tb := by
  intro w hw
  have h1 := List.all_eq_true.mp mv_cl_in _ (List.mem_of_getElem? h)
  have h2 := List.all_eq_true.mp h1 w hw
  rw [Bool.and_eq_true] at h2
  exact List.mem_filter.mpr ⟨of_decide_eq_true h2.1, h2.2⟩
theorem mv_sub_ra {U : State} {c1 c2 : ClassId} {ty : FieldType} (h1 : va_RA U c1 ty) (h2 : va_RA U c2 ty) : c1 = c2 := by
  cases ty with
  | object C =>
    obtain ⟨-, -, -, -, -, a⟩ := h1
    obtain ⟨-, -, -, -, -, b⟩ := h2
    exact Option.some.inj (a.symm.trans b)
  | _ => exact Option.some.inj (h1.symm.trans h2)
theorem mv_ws_push {cy : Nat → ClassId} {ad : Nat → Nat} {sh : mv_Shp} {M : mv_Mem} {e : mv_Sh1} {q : Nat} {g : Nat → Int32} (hw : mv_wf sh) : mv_ws cy (fun k => if k = sh.length then q else ad k) (sh ++ [e]) (mv_wr M sh.length g) = mv_ws cy ad sh M ++ [(q, mv_cell cy (fun k => if k = sh.length then q else ad k) g e)] := by
  have hl : (mv_ws cy ad sh M).length = sh.length := List.length_mapIdx
  apply List.ext_getElem?
  intro j
  rw [mv_ws_get]
  rcases Nat.lt_trichotomy j sh.length with hj | hj | hj
  · rw [List.getElem?_append_left hj, List.getElem?_append_left (by rw [hl]; exact hj), mv_ws_get]
    cases hs : sh[j]? with
    | none => rfl
    | some z =>
      have h1 : mv_wr M sh.length g j = M j := if_neg (Nat.ne_of_lt hj)
      have h2 : (if j = sh.length then q else ad j) = ad j := if_neg (Nat.ne_of_lt hj)
      show some (_, _) = some (_, _)
      rw [h1, h2, mv_cell_eq (hw.2 j z hs) (fun k hk => if_neg (by
        have := hw.1
        omega))]
  · subst hj
    rw [List.getElem?_append_right (Nat.le_refl _), List.getElem?_append_right (by rw [hl]; exact Nat.le_refl _), hl, Nat.sub_self]
    show some (_, _) = some (_, _)
    rw [if_pos rfl]
    have : mv_wr M sh.length g sh.length = g := if_pos rfl
    rw [this]
  · rw [List.getElem?_append_right (by omega), List.getElem?_append_right (by omega), hl]
    obtain ⟨d, hd⟩ : ∃ d, j - sh.length = d + 1 := ⟨j - sh.length - 1, by omega⟩
    rw [hd]; rfl
theorem mv_wf_push {sh : mv_Shp} {e : mv_Sh1} (hw : mv_wf sh) (hl : sh.length < 900) (he : mv_ve (sh.length + 1) e) : mv_wf (sh ++ [e]) := by
  have mono : ∀ x : mv_Sh1, mv_ve sh.length x → mv_ve (sh.length + 1) x := by
    intro x hx
    rcases x with ⟨t, n'⟩ | ⟨ci, fs⟩ | ⟨t, n', g⟩
    · trivial
    · exact fun j v hj => mv_vd_mono (Nat.le_succ _) (hx j v hj)
    · exact fun j b hj => (hx j b hj).imp (fun z => by omega) id
  refine ⟨by simp; omega, fun k x hx => ?_⟩
  rw [List.length_append, List.length_cons, List.length_nil]
  rcases Nat.lt_or_ge k sh.length with hk | hk
  · rw [List.getElem?_append_left hk] at hx
    exact mono x (hw.2 k x hx)
  · rw [List.getElem?_append_right hk] at hx
    have : k - sh.length = 0 := by
      have := (List.getElem?_eq_some_iff.mp hx).1
      simp at this; omega
    rw [this] at hx
    cases hx
    exact he
theorem mv_wf_set {sh : mv_Shp} {k : Nat} {e : mv_Sh1} (hw : mv_wf sh) (he : mv_ve sh.length e) : mv_wf (sh.set k e) := by
  refine ⟨by rw [List.length_set]; exact hw.1, fun j x hx => ?_⟩
  rw [List.length_set]
  by_cases hj : k = j
  · subst hj
    have := (List.getElem?_eq_some_iff.mp hx).1
    rw [List.length_set] at this
    rw [List.getElem?_set_self this] at hx
    cases hx; exact he
  · rw [List.getElem?_set_ne hj] at hx
    exact hw.2 j x hx
