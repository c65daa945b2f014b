/-! what the small machine's states say of the real machine's -/
def mv_isNest : Cond → Bool
  | .methodLinkNest .. => true
  | .fieldLinkNest .. => true
  | _ => false
/-- 'selects' of the private methods of the text's superclass, on the text's class -/
def mv_xm : List MethodName := [⟨"java/lang/AbstractStringBuilder", "ensureCapacityInternal", "(I)V"⟩, ⟨"java/lang/AbstractStringBuilder", "newCapacity", "(I)I"⟩, ⟨"java/lang/AbstractStringBuilder", "putStringAt", "(ILjava/lang/String;)V"⟩, ⟨"java/lang/AbstractStringBuilder", "inflateIfNeededFor", "(Ljava/lang/String;)V"⟩]
def mv_xs : List Cond := mv_xm.map (fun y => .selects "java/lang/StringBuilder" y y)
def mv_all : List Cond := lw_tbl ++ mv_xs
def mv_tb : List Cond := mv_all.filter goodWord
def mv_nw : List Cond := mv_all.filter mv_isNest
theorem mv_tb_in {w : Cond} {i : Nat} (h : mv_all[i]? = some w) (hg : goodWord w = true) : w ∈ mv_tb := List.mem_filter.mpr ⟨List.mem_of_getElem? h, hg⟩
theorem mv_nw_in {w : Cond} {i : Nat} (h : mv_all[i]? = some w) (hg : mv_isNest w = true) : w ∈ mv_nw := List.mem_filter.mpr ⟨List.mem_of_getElem? h, hg⟩
def mv_chk : List Cond → List Nat → Bool
  | [], _ => true
  | w :: ws, i :: is => decide (mv_all[i]? = some w) && (goodWord w && mv_chk ws is)
  | _ :: _, [] => false
theorem mv_chk_in : ∀ {ws : List Cond} {is : List Nat}, mv_chk ws is = true → ∀ w ∈ ws, w ∈ mv_tb
  | [], _, _, w, hw => by cases hw
  | x :: ws, i :: is, h, w, hw => by
    simp only [mv_chk, Bool.and_eq_true, decide_eq_true_eq] at h
    rcases List.mem_cons.mp hw with rfl | hw
    · exact mv_tb_in h.1 h.2.1
    · exact mv_chk_in h.2.2 w hw
  | _ :: _, [], h, _, _ => by simp [mv_chk] at h
def mv_rv (ad : Nat → Nat) : Value → Value
  | .ref k => .ref (ad k)
  | v => v
def mv_vd (n : Nat) : Value → Prop
  | .ref k => k < n ∨ 1000 ≤ k
  | .double _ => False
  | _ => True
def mv_vs (n : Nat) : List Value → Prop
  | [] => True
  | v :: r => mv_vd n v ∧ mv_vs n r
def mv_ve (n : Nat) : mv_Sh1 → Prop
  | .inl _ => True
  | .inr (.inl (_, fs)) => ∀ (j : Nat) (v : Value), fs[j]? = some (some v) → mv_vd n v
  | .inr (.inr (_, _, g)) => ∀ (j b : Nat), g j = some b → b < n ∨ 1000 ≤ b
def mv_wf (sh : mv_Shp) : Prop := sh.length ≤ 900 ∧ ∀ (k : Nat) (e : mv_Sh1), sh[k]? = some e → mv_ve sh.length e
def mv_fs (ad : Nat → Nat) (f : Nat → Int32) (fs : List (Option Value)) : List Value := fs.mapIdx (fun j o => match o with
  | none => .int (f j)
  | some v => mv_rv ad v)
def mv_cell (cy : Nat → ClassId) (ad : Nat → Nat) (f : Nat → Int32) : mv_Sh1 → va_E
  | .inl (t, n) => .inl (cy t, n, .inl f)
  | .inr (.inl (ci, fs)) => .inr (ci, mv_fs ad f fs)
  | .inr (.inr (t, n, g)) => .inl (cy t, n, .inr (.inr (.inr (.inr (fun j => (g j).map ad)))))
def mv_ws (cy : Nat → ClassId) (ad : Nat → Nat) (sh : mv_Shp) (M : mv_Mem) : va_W := sh.mapIdx (fun k e => (ad k, mv_cell cy ad (M k) e))
section REP
variable {cy : Nat → ClassId} {ad ad' : Nat → Nat} {sh : mv_Shp} {M : mv_Mem} {n : Nat}
theorem mv_ws_get (k : Nat) : (mv_ws cy ad sh M)[k]? = (sh[k]?).map (fun e => (ad k, mv_cell cy ad (M k) e)) := List.getElem?_mapIdx
theorem mv_ws_at {k : Nat} {e : mv_Sh1} (h : sh[k]? = some e) : (mv_ws cy ad sh M)[k]? = some (ad k, mv_cell cy ad (M k) e) := by rw [mv_ws_get, h]; rfl
theorem mv_fs_get {f : Nat → Int32} {fs : List (Option Value)} (j : Nat) : (mv_fs ad f fs)[j]? = (fs[j]?).map (fun o => match o with
  | none => .int (f j)
  | some v => mv_rv ad v) := List.getElem?_mapIdx
theorem mv_ws_set {k : Nat} {e e' : mv_Sh1} {g : Nat → Int32} (h : sh[k]? = some e) : (mv_ws cy ad sh M).set k (ad k, mv_cell cy ad g e') = mv_ws cy ad (sh.set k e') (mv_wr M k g) := by
  apply List.ext_getElem?
  intro j
  rw [mv_ws_get]
  have hk : k < sh.length := (List.getElem?_eq_some_iff.mp h).1
  by_cases hj : k = j
  · subst hj
    rw [List.getElem?_set_self (by rw [mv_ws, List.length_mapIdx]; exact hk), List.getElem?_set_self hk]
    simp [mv_wr]
  · rw [List.getElem?_set_ne hj, List.getElem?_set_ne hj, mv_ws_get]
    have : mv_wr M k g j = M j := if_neg (fun z => hj z.symm)
    rw [this]
theorem mv_ws_wr {k : Nat} {e : mv_Sh1} {g : Nat → Int32} (h : sh[k]? = some e) : (mv_ws cy ad sh M).set k (ad k, mv_cell cy ad g e) = mv_ws cy ad sh (mv_wr M k g) := by
  rw [mv_ws_set h]
  congr 1
  apply List.ext_getElem?
  intro j
  by_cases hj : k = j
  · subst hj; rw [List.getElem?_set_self (List.getElem?_eq_some_iff.mp h).1, h]
  · rw [List.getElem?_set_ne hj]
theorem mv_up_wr (M : mv_Mem) (a i : Nat) (x : Int32) : mv_up M a i x = mv_wr M a (upd (M a) i x) := rfl
theorem mv_wr_id (M : mv_Mem) (a : Nat) : mv_wr M a (M a) = M := by
  funext b; unfold mv_wr; split
  · rename_i h; rw [h]
  · rfl
theorem mv_rv_cat (v : Value) : (mv_rv ad v).category = v.category := by cases v <;> rfl
theorem mv_rv_eq {v : Value} (hv : mv_vd n v) (h : ∀ k, k < n ∨ 1000 ≤ k → ad' k = ad k) : mv_rv ad' v = mv_rv ad v := by
  cases v <;> first | rfl | exact congrArg Value.ref (h _ hv)
theorem mv_vd_mono {n' : Nat} {v : Value} (h : n ≤ n') (hv : mv_vd n v) : mv_vd n' v := by
  cases v <;> first | trivial | exact hv | exact hv.imp (fun z => Nat.lt_of_lt_of_le z h) id
theorem mv_vs_mono {n' : Nat} (h : n ≤ n') : ∀ {st : List Value}, mv_vs n st → mv_vs n' st
  | [], _ => trivial
  | _ :: _, hv => ⟨mv_vd_mono h hv.1, mv_vs_mono h hv.2⟩
theorem mv_vs_map (h : ∀ k, k < n ∨ 1000 ≤ k → ad' k = ad k) : ∀ {st : List Value}, mv_vs n st → st.map (mv_rv ad') = st.map (mv_rv ad)
  | [], _ => rfl
  | _ :: _, hv => by rw [List.map_cons, List.map_cons, mv_rv_eq hv.1 h, mv_vs_map h hv.2]
theorem mv_vs_app : ∀ {a b : List Value}, mv_vs n (a ++ b) ↔ mv_vs n a ∧ mv_vs n b
  | [], b => by simp [mv_vs]
  | v :: a, b => by rw [List.cons_append]; simp only [mv_vs, mv_vs_app (a := a)]; exact and_assoc.symm
theorem mv_vs_rev : ∀ {a : List Value}, mv_vs n a.reverse ↔ mv_vs n a
  | [] => Iff.rfl
  | v :: a => by rw [List.reverse_cons, mv_vs_app, mv_vs_rev (a := a)]; simp only [mv_vs]; exact ⟨fun z => ⟨z.2.1, z.1⟩, fun z => ⟨z.2, z.1, trivial⟩⟩
theorem mv_cell_eq {f : Nat → Int32} {e : mv_Sh1} (he : mv_ve n e) (h : ∀ k, k < n ∨ 1000 ≤ k → ad' k = ad k) : mv_cell cy ad' f e = mv_cell cy ad f e := by
  rcases e with ⟨t, n'⟩ | ⟨ci, fs⟩ | ⟨t, n', g⟩
  · rfl
  · have : mv_fs ad' f fs = mv_fs ad f fs := by
      apply List.ext_getElem?
      intro j
      rw [mv_fs_get, mv_fs_get]
      cases hj : fs[j]? with
      | none => rfl
      | some o =>
        cases o with
        | none => rfl
        | some v => exact congrArg some (mv_rv_eq (he j v hj) h)
    show Sum.inr (ci, mv_fs ad' f fs) = Sum.inr (ci, mv_fs ad f fs)
    rw [this]
  · have : (fun j => (g j).map ad') = (fun j => (g j).map ad) := by
      funext j
      cases hj : g j with
      | none => rfl
      | some b => exact congrArg some (h b (he j b hj))
    show Sum.inl (cy t, n', Sum.inr (Sum.inr (Sum.inr (Sum.inr (fun j => (g j).map ad'))))) = _
    rw [this]; rfl
theorem mv_ws_eq (hw : mv_wf sh) (h : ∀ k, k < sh.length ∨ 1000 ≤ k → ad' k = ad k) : mv_ws cy ad' sh M = mv_ws cy ad sh M := by
  apply List.ext_getElem?
  intro j
  rw [mv_ws_get, mv_ws_get]
  cases hj : sh[j]? with
  | none => rfl
  | some e =>
    show some (ad' j, mv_cell cy ad' (M j) e) = some (ad j, mv_cell cy ad (M j) e)
    rw [mv_cell_eq (hw.2 j e hj) h, h j (Or.inl (List.getElem?_eq_some_iff.mp hj).1)]
-- locals
def mv_lk (ad : Nat → Nat) (n : Nat) (ls : Array Slot) (L : mv_Loc) (nL : Nat) : Prop := ls.size = nL ∧ L.length = nL ∧ lv_wf ls ∧ ∀ (i : Nat) (v : Value), L[i]? = some (some v) → mv_vd n v ∧ ls[i]? = some (Slot.val (mv_rv ad v))
def mv_al (ad : Nat → Nat) (L : mv_Loc) : List (Nat × Value) := L.zipIdx.filterMap (fun q => q.1.map (fun v => (q.2, mv_rv ad v)))
theorem mv_al_mem {L : mv_Loc} {i : Nat} {w : Value} : (i, w) ∈ mv_al ad L ↔ ∃ v, L[i]? = some (some v) ∧ w = mv_rv ad v := by
  unfold mv_al
  rw [List.mem_filterMap]
  constructor
  · rintro ⟨⟨o, j⟩, h1, h2⟩
    rw [List.mem_zipIdx_iff_getElem?] at h1
    cases o with
    | none => cases h2
    | some v =>
      simp only [Option.map_some, Option.some.injEq, Prod.mk.injEq] at h2
      obtain ⟨rfl, rfl⟩ := h2
      exact ⟨v, h1, rfl⟩
  · rintro ⟨v, h1, rfl⟩
    exact ⟨(some v, i), List.mem_zipIdx_iff_getElem?.mpr h1, rfl⟩
variable {ls ls' : Array Slot} {L : mv_Loc} {nL i : Nat} {v : Value}
theorem mv_lk.has (h : mv_lk ad n ls L nL) : lv_has ls nL (mv_al ad L) := by
  refine ⟨h.1, h.2.2.1, ?_⟩
  rintro ⟨j, w⟩ hq
  obtain ⟨u, h1, rfl⟩ := mv_al_mem.mp hq
  exact (h.2.2.2 j u h1).2
theorem mv_lk.moved {n' : Nat} (h : mv_lk ad n ls L nL) (hn : n ≤ n') (ha : ∀ k, k < n ∨ 1000 ≤ k → ad' k = ad k) : mv_lk ad' n' ls L nL :=
  ⟨h.1, h.2.1, h.2.2.1, fun i v hv => ⟨mv_vd_mono hn (h.2.2.2 i v hv).1, by rw [mv_rv_eq (h.2.2.2 i v hv).1 ha]; exact (h.2.2.2 i v hv).2⟩⟩
theorem mv_lk.st (h : mv_lk ad n ls L nL) (hv : mv_vd n v) (hi : i < L.length) (hno : ∀ j w, i = j + 1 → L[j]? ≠ some (some (.long w)))
    (h' : lv_has ls' nL ((i, mv_rv ad v) :: (mv_al ad L).filter (fun q => !(q.1 == i) && !(q.1 + 1 == i && q.2.category == 2)))) : mv_lk ad n ls' (L.set i (some v)) nL := by
  refine ⟨h'.1, by rw [List.length_set]; exact h.2.1, h'.2.1, fun j u hj => ?_⟩
  by_cases hij : i = j
  · subst hij
    rw [List.getElem?_set_self hi] at hj
    cases hj
    exact ⟨hv, h'.2.2 _ List.mem_cons_self⟩
  · rw [List.getElem?_set_ne hij] at hj
    have hu := h.2.2.2 j u hj
    refine ⟨hu.1, h'.2.2 (j, mv_rv ad u) (List.mem_cons_of_mem _ (List.mem_filter.mpr ⟨mv_al_mem.mpr ⟨u, hj, rfl⟩, ?_⟩))⟩
    simp only [mv_rv_cat, Bool.and_eq_true, Bool.not_eq_true', beq_eq_false_iff_ne, ne_eq, Bool.and_eq_false_imp, beq_iff_eq]
    refine ⟨fun z => hij z.symm, fun z => ?_⟩
    intro hc
    cases u <;> first | exact hno j _ z.symm hj | (exact absurd (show (1 : Nat) = 2 from hc) (by decide)) | exact hu.1
theorem mv_lk.stl {w : Int64} (h : mv_lk ad n ls L nL) (hi : i + 1 < L.length) (hno : ∀ j w, i = j + 1 → L[j]? ≠ some (some (.long w)))
    (h' : lv_has ls' nL ((i, .long w) :: (mv_al ad L).filter (fun q => !(q.1 == i) && (!(q.1 == i + 1) && !(q.1 + 1 == i && q.2.category == 2))))) : mv_lk ad n ls' ((L.set i (some (.long w))).set (i + 1) none) nL := by
  refine ⟨h'.1, by rw [List.length_set, List.length_set]; exact h.2.1, h'.2.1, fun j u hj => ?_⟩
  by_cases hij1 : i + 1 = j
  · subst hij1
    rw [List.getElem?_set_self (by rw [List.length_set]; exact hi)] at hj
    cases hj
  rw [List.getElem?_set_ne hij1] at hj
  by_cases hij : i = j
  · subst hij
    rw [List.getElem?_set_self (by omega)] at hj
    cases hj
    exact ⟨trivial, h'.2.2 _ List.mem_cons_self⟩
  · rw [List.getElem?_set_ne hij] at hj
    have hu := h.2.2.2 j u hj
    refine ⟨hu.1, h'.2.2 (j, mv_rv ad u) (List.mem_cons_of_mem _ (List.mem_filter.mpr ⟨mv_al_mem.mpr ⟨u, hj, rfl⟩, ?_⟩))⟩
    simp only [mv_rv_cat, Bool.and_eq_true, Bool.not_eq_true', beq_eq_false_iff_ne, ne_eq, Bool.and_eq_false_imp, beq_iff_eq]
    refine ⟨fun z => hij z.symm, fun z => hij1 z.symm, fun z => ?_⟩
    intro hc
    cases u <;> first | exact hno j _ z.symm hj | (exact absurd (show (1 : Nat) = 2 from hc) (by decide)) | exact hu.1
end REP
/-- a method's locals at its entry -/
def mv_al0 : List Value → mv_Loc
  | [] => []
  | .long x :: r => some (.long x) :: none :: mv_al0 r
  | v :: r => some v :: mv_al0 r
def mv_ent (vs : List Value) (n : Nat) : mv_Loc := mv_al0 vs ++ List.replicate (n - (mv_al0 vs).length) none
theorem mv_al0_len {ad : Nat → Nat} {n : Nat} : ∀ {vs : List Value}, mv_vs n vs → (lg_sl (vs.map (mv_rv ad))).length = (mv_al0 vs).length
  | [], _ => rfl
  | v :: r, h => by
    have ih := mv_al0_len (ad := ad) h.2
    have hh := h.1
    cases v <;> first | exact hh.elim | (simp [lg_sl, mv_al0, mv_rv, Value.category] at ih ⊢; omega)
theorem mv_al0_at {ad : Nat → Nat} {n : Nat} : ∀ {vs : List Value}, mv_vs n vs → ∀ (i : Nat) (v : Value), (mv_al0 vs)[i]? = some (some v) → mv_vd n v ∧ (lg_sl (vs.map (mv_rv ad)))[i]? = some (.val (mv_rv ad v))
  | [], _, i, v, h => by simp [mv_al0] at h
  | u :: r, hu, i, v, h => by
    have ih := mv_al0_at (ad := ad) hu.2
    have hh := hu.1
    have cat1 : ∀ (w : Value), (lg_sl (w :: r.map (mv_rv ad))) = (if w.category = 2 then [Slot.val w, .second] else [.val w]) ++ lg_sl (r.map (mv_rv ad)) := fun w => by simp [lg_sl]
    rw [List.map_cons, cat1]
    cases u with
    | double b => exact hh.elim
    | long b =>
      match i, h with
      | 0, h => cases h; exact ⟨trivial, rfl⟩
      | 1, h => cases h
      | i + 2, h => exact ih i v h
    | int b =>
      match i, h with
      | 0, h => cases h; exact ⟨hh, rfl⟩
      | i + 1, h => exact ih i v h
    | float b =>
      match i, h with
      | 0, h => cases h; exact ⟨hh, rfl⟩
      | i + 1, h => exact ih i v h
    | null =>
      match i, h with
      | 0, h => cases h; exact ⟨hh, rfl⟩
      | i + 1, h => exact ih i v h
    | ref b =>
      match i, h with
      | 0, h => cases h; exact ⟨hh, rfl⟩
      | i + 1, h => exact ih i v h
    | retAddr b =>
      match i, h with
      | 0, h => cases h; exact ⟨hh, rfl⟩
      | i + 1, h => exact ih i v h
theorem mv_ent_lk {ad : Nat → Nat} {n nL : Nat} {vs : List Value} (h : mv_vs n vs) (hn : (mv_al0 vs).length ≤ nL) : mv_lk ad n ((lg_sl (vs.map (mv_rv ad)) ++ List.replicate (nL - (lg_sl (vs.map (mv_rv ad))).length) Slot.unset).toArray) (mv_ent vs nL) nL := by
  have hlen := mv_al0_len (ad := ad) h
  have h0 := lv_entry (vs.map (mv_rv ad)) (n := nL) (by rw [hlen]; exact hn)
  refine ⟨h0.1, by simp [mv_ent]; omega, h0.2.1, fun i v hv => ?_⟩
  unfold mv_ent at hv
  rcases Nat.lt_or_ge i (mv_al0 vs).length with hi | hi
  · rw [List.getElem?_append_left hi] at hv
    obtain ⟨h1, h2⟩ := mv_al0_at (ad := ad) h i v hv
    refine ⟨h1, ?_⟩
    rw [List.getElem?_toArray, List.getElem?_append_left (by rw [hlen]; exact hi)]
    exact h2
  · rw [List.getElem?_append_right hi, List.getElem?_replicate] at hv
    split at hv <;> cases hv
