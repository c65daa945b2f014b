/-! the law, from its entry -/
def lwFC : List (Option Value) := [some .null, some .null, some .null, some .null, some .null, some .null, none, none, some .null, none, some .null, none, some .null]
def lwFM : List (Option Value) := [some .null, none, none, none, some .null, some .null, some .null, none, some .null, none, none, some .null, some .null, none, none, some .null, some .null, none, none, none, some .null, some .null, some .null, none, some .null, none, none, some .null, some .null, some .null, some .null, some .null, none, some .null, some .null, some .null, none, some .null, some .null]
theorem lw_wf1 {ci : Nat} {F : List (Option Value)} (h : F.all (fun o => decide (o = none ∨ o = some .null)) = true) : mv_wf [.inr (.inl (ci, F))] := by
  refine ⟨Nat.le_of_ble_eq_true rfl, fun k e hk => ?_⟩
  have hz : k < 1 := (List.getElem?_eq_some_iff.mp hk).1
  obtain rfl : k = 0 := by omega
  cases hk
  intro j v hj
  rcases of_decide_eq_true (List.all_eq_true.mp h _ (List.mem_of_getElem? hj)) with h | h
  · cases h
  · cases h; trivial
theorem lw_ws1 {cy : Nat → ClassId} {ad : Nat → Nat} {ci : Nat} {F : List (Option Value)} (h : F.all (fun o => decide (o = none ∨ o = some .null)) = true) : mv_ws cy ad [.inr (.inl (ci, F))] (fun _ _ => 0) = [(ad 0, .inr (ci, mv_fs id (fun _ => 0) F))] := by
  show [(ad 0, mv_cell cy ad (fun _ => 0) (.inr (.inl (ci, F))))] = _
  have e : mv_cell cy ad (fun _ => 0) (.inr (.inl (ci, F))) = .inr (ci, mv_fs id (fun _ => 0) F) := by
    show Sum.inr (ci, mv_fs ad (fun _ => 0) F) = _
    rw [mv_fs_null h]
  rw [e]
theorem lw_Pl {D : va_G} {cl : List vw_C} {w1 w2 : va_W} {H : Heap} (h : va_P D cl (w1 ++ w2) H) : va_P D cl w1 H ∧ va_P D cl w2 H :=
  ⟨fun k q hk => h k q (by rw [List.getElem?_append_left (List.getElem?_eq_some_iff.mp hk).1]; exact hk),
   fun k q hk => h (w1.length + k) q (by rw [List.getElem?_append_right (Nat.le_add_right _ _), Nat.add_sub_cancel_left]; exact hk)⟩
theorem whole_start {p : Program} {e : Env} {s : State} {m : MethodId} {below : List Frame} {meth : Method} {c : Code} (l : Launch) (hflags : l.flags = flags0) {b L : Nat} {xs : Nat → Int32} (hL : L ≤ 320) (C0 : lw_At p s m meth c b L xs) : W p l e room_1 s m #[Value.ref b] below meth c s.heap [] 0 0 (lw_Z below #[Value.ref b] s) (entryFrame m ([Value.ref b] : List Value).toArray 4) := by
  obtain ⟨hx, hb, hr, hml, hown, hts, hX, hbl, hlocks, hgv⟩ := id C0
  have htb := lw_tbm hts
  obtain ⟨D, cy, hK⟩ := lw_K hts
  obtain ⟨a0, hG⟩ := lw_G hts hgv
  have hA : ∀ q, s.heap.size ≤ q → lw_A s q := fun _ h => h
  have hS : va_S (lw_A s) s.heap s.heap [] := va_S.rf
  have hP : va_P D mv_cl [] s.heap := fun k q h => by simp at h
  have hD : va_D (lw_A s) [] := ⟨fun i j p q h => by simp at h, fun k q h => by simp at h⟩
  have hl := lv_entry ([.ref b]) (n := 4) (Nat.le_of_ble_eq_true rfl)
  rw [lg_entry_eq]
  generalize (lg_sl ([.ref b]) ++ List.replicate (4 - (lg_sl ([.ref b])).length) Slot.unset).toArray = ls at hl ⊢
  have hl : lv_has ls 4 [(0, .ref b)] := hl
  obtain ⟨-, d2, d3⟩ := mv_DF_ok ((("TurnedTablets", mv_T4, 13), mv_Y4), lwFC) (List.mem_of_getElem? (i := 4) rfl)
  obtain ⟨-, g2, g3⟩ := mv_DF_ok ((("TurnedTabletsModel", mv_T5, 39), mv_Y5), lwFM) (List.mem_of_getElem? (i := 5) rfl)
  -- the class's object
  refine va_new (ci := 4) (fs := mv_fs id (fun _ => 0) lwFC) (C := "TurnedTablets") (T := mv_T4) (N := 13) hx hb htb (mv_cl_words (ci := 4) rfl) mv_Y4 (mv_cl_ty (("TurnedTablets", mv_T4, 13), mv_Y4) (List.mem_of_getElem? (i := 4) rfl)) hown (htb _ lwgN.1.1) (htb _ lwgN.1.2.1) (htb _ lwgN.1.2.2) hK hP hD hS hA rfl d2 (by decide) (by decide) lwx_0 (fun q0 H hP hD hS => ?_)
  have e0 : mv_ws cy (fun k => if k = 0 then q0 else a0 k) xs0 (fun _ _ => 0) = [(q0, .inr (4, mv_fs id (fun _ => 0) lwFC))] := lw_ws1 (F := lwFC) d3
  have hP : va_P D mv_cl (mv_ws cy (fun k => if k = 0 then q0 else a0 k) xs0 (fun _ _ => 0)) H := by rw [e0]; exact hP
  have hD : va_D (lw_A s) (mv_ws cy (fun k => if k = 0 then q0 else a0 k) xs0 (fun _ _ => 0) ++ []) := by rw [e0, List.append_nil]; exact hD
  refine lv_dup hx hb lwx_3 rfl ?_
  refine lw_init (ad := fun k => if k = 0 then q0 else a0 k) (sh := xs0) (M := fun _ _ => 0) (Wr := []) (rest := [.ref q0]) (Q := fun r sh' M' => r = none ∧ oX sh' ∧ ∃ M1, iX0 M1 ∧ M' = wpM (m46 M1))
    hx hb hml hown htb hK (mv_G_cg hG (fun j hj => if_neg (by omega))) lwtC (by decide) (by decide) (by decide) (by decide) lwvC lwwC (by decide +kernel) rfl rfl ?_ (lw_wf1 (F := lwFC) d3) ⟨Or.inl (by decide), trivial⟩ (Nat.le_of_ble_eq_true rfl) hP (fun k q h => by simp at h) hD hS hl.1 (by decide) lwx_4 ?_
  · rw [eS50]
    exact ⟨rfl, rfl, fun _ _ _ => rfl, fun sh' M1 o i => ⟨rfl, o, M1, i, rfl⟩⟩
  rintro r sx M' ax H1 locs1 ⟨rfl, ox, M1, i0, rfl⟩ q2 q3 wx hPx - hDx hS1
  have eax : ax 0 = q0 := q2 0 (Or.inl (by decide))
  have exx : ∀ j, 1000 ≤ j → ax j = a0 j := fun j hj => (q2 j (Or.inr hj)).trans (if_neg (by omega))
  refine lv_astore_n (lv' := [(1, .ref q0), (0, .ref b)]) hx hb lwx_7 rfl hl (by decide) rfl (fun ls hl => ?_)
  -- the model's object
  refine va_new (ci := 5) (fs := mv_fs id (fun _ => 0) lwFM) (C := "TurnedTabletsModel") (T := mv_T5) (N := 39) hx hb htb (mv_cl_words (ci := 5) rfl) mv_Y5 (mv_cl_ty (("TurnedTabletsModel", mv_T5, 39), mv_Y5) (List.mem_of_getElem? (i := 5) rfl)) hown (htb _ lwgN.2.1) (htb _ lwgN.2.2.1) (htb _ lwgN.2.2.2) hK hPx (lw_Dl hDx).1 hS1 hA rfl g2 (by decide) (by decide) lwx_8 (fun q1 H2 hP2 hD2 hS2 => ?_)
  have e1 : mv_ws cy (fun k => if k = 0 then q1 else a0 k) ms0 (fun _ _ => 0) = [(q1, .inr (5, mv_fs id (fun _ => 0) lwFM))] := lw_ws1 (F := lwFM) g3
  rw [← e1] at hP2 hD2
  refine lv_dup hx hb lwx_11 rfl ?_
  refine lw_init (ad := fun k => if k = 0 then q1 else a0 k) (sh := ms0) (M := fun _ _ => 0) (Wr := mv_ws cy ax sx (wpM (m46 M1))) (rest := [.ref q1]) (Q := fun r sh' M' => r = none ∧ oM sh' ∧ ∃ N N', rB (tdM M1).2 N ∧ laE N N' ∧ M' = mv_up N' 0 13 (nI 0))
    hx hb hml hown htb hK (mv_G_cg hG (fun j hj => if_neg (by omega))) lwtM (by decide) (by decide) (by decide) (by decide) lwvM lwwM (by decide +kernel) rfl rfl ?_ (lw_wf1 (F := lwFM) g3) ⟨Or.inl (by decide), trivial⟩ (Nat.le_of_ble_eq_true rfl) (lw_Pl hP2).2 (lw_Pl hP2).1 (lw_Ds hD2) hS2 hl.1 (by decide) lwx_12 ?_
  · rw [eS155]
    exact ⟨M1, rfl, rfl, i0.tx, i0.gl (by decide) (by decide), ly_1 i0.2.2.1 i0.2.2.2, i0.2.2.1, i0.2.2.2, fun sh' N N' o rb la => ⟨rfl, o, N, N', rb, la, rfl⟩⟩
  rintro r sn M2 an H3 locs3 ⟨rfl, om, N, N', rb, la, rfl⟩ r2 r3 wn hPn hPx3 hD3 hS3
  have ean : an 0 = q1 := r2 0 (Or.inl (by decide))
  have enn : ∀ j, 1000 ≤ j → an j = a0 j := fun j hj => (r2 j (Or.inr hj)).trans (if_neg (by omega))
  refine lv_astore_n (lv' := [(2, .ref q1), (1, .ref q0), (0, .ref b)]) hx hb lwx_15 rfl hl (by decide) rfl (fun ls hl => ?_)
  refine lv_iconst (v := nI (5 * 0)) hx hb lwx_16 (by decide) ?_
  refine lv_istore_n (lv' := [(3, .int (nI (5 * 0))), (2, .ref q1), (1, .ref q0), (0, .ref b)]) hx hb lwx_17 rfl hl (by decide) rfl (fun ls hl => ?_)
  have hl : lv_has ls 4 [(0, .ref b), (1, .ref (ax 0)), (2, .ref (an 0)), (3, .int (nI (5 * 0)))] := by rw [eax, ean]; exact lv_sub hl [3, 2, 1, 0] rfl
  exact lw_loop hL C0 hK hG 65 0 _ _ _ _ _ _ ls (by decide) (by decide) ⟨hPx3, hPn, lw_Ds hD3, hS3, ox, om, wx, wn, RR_init i0 rb la, exx, enn, by decide, by decide⟩ hl
