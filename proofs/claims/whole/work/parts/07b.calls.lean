/-! calls and new cells: their soundness -/
theorem mv_gca_out {k : Nat} {own : String} {R : Jvm.Room} {op ix : Nat} {ax : List Nat} (h : mv_gca k own R op ix ax = true) : ∃ (mj : mv_Mt) (cj : vw_C), mv_meth[mv_x1 ax]? = some mj ∧ mv_cl[mv_x3 ax]? = some cj ∧
    (mv_x1 ax < k ∧ mj.2.2.2.2.frames + 1 ≤ R.frames ∧ 8 + (mj.2.2.1 + 11) + mj.2.2.2.2.locals ≤ R.locals ∧ mj.2.2.2.2.cells = mv_x4 ax ∧ mj.2.2.2.2.slots = mv_x5 ax) ∧ (mj.1.cls ≠ "java/lang/invoke/MethodHandle" ∧ mj.1.cls ≠ "java/lang/invoke/VarHandle") ∧
    (∀ w ∈ mv_cws (mv_x0 ax) own cj.1 ix mj, w ∈ mv_tb) ∧ (mv_isn (mv_x0 ax) = true → Cond.methodLinkNest own ix mj.1 mv_host ∈ mv_nw) ∧
    ((mv_x0 ax = 0 ∧ op = 0 ∧ mv_pn mj = some (mv_x2 ax - 1) ∧ 0 < mv_x2 ax) ∨ (mv_x0 ax = 1 ∧ op = 0 ∧ mv_pn mj = some (mv_x2 ax - 1) ∧ 0 < mv_x2 ax) ∨ (mv_x0 ax = 2 ∧ op = 2 ∧ mv_pn mj = some (mv_x2 ax - 1) ∧ 0 < mv_x2 ax ∧ mj.1.name ≠ "<init>") ∨
     (mv_x0 ax = 8 ∧ op = 0 ∧ mv_pn mj = some (mv_x2 ax - 1) ∧ 0 < mv_x2 ax) ∨ (mv_x0 ax = 3 ∧ op = 1 ∧ mv_pn mj = some (mv_x2 ax)) ∨ (mv_x0 ax = 4 ∧ op = 1 ∧ mv_pn mj = some (mv_x2 ax)) ∨
     (mv_x0 ax = 5 ∧ op = 2 ∧ mv_pn mj = some (mv_x2 ax - 1) ∧ 0 < mv_x2 ax ∧ mj.1.name = "<init>" ∧ mj.2.2.2.1 = none) ∨ (mv_x0 ax = 6 ∧ op = 2 ∧ mv_pn mj = some (mv_x2 ax - 1) ∧ 0 < mv_x2 ax ∧ mj.1.name = "<init>" ∧ mj.2.2.2.1 = none)) := by
  unfold mv_gca at h
  split at h
  · rename_i mj cj h1 h2
    rw [Bool.and_eq_true, Bool.and_eq_true, Bool.and_eq_true, Bool.and_eq_true] at h
    obtain ⟨⟨g1, g2⟩, g3, g4, g5⟩ := h
    refine ⟨mj, cj, h1, h2, of_decide_eq_true g1, of_decide_eq_true g2, mv_chk_in g3, fun z => ?_, ?_⟩
    · rw [if_pos z] at g4
      exact mv_nw_in (of_decide_eq_true g4) rfl
    · split at g5
      · rename_i q; exact Or.inl ⟨q, rfl, of_decide_eq_true g5⟩
      · rename_i q; exact Or.inr (Or.inl ⟨q, rfl, of_decide_eq_true g5⟩)
      · rename_i q; exact Or.inr (Or.inr (Or.inr (Or.inl ⟨q, rfl, of_decide_eq_true g5⟩)))
      · rename_i q; exact Or.inr (Or.inr (Or.inl ⟨q, rfl, of_decide_eq_true g5⟩))
      · rename_i q; exact Or.inr (Or.inr (Or.inr (Or.inr (Or.inl ⟨q, rfl, of_decide_eq_true g5⟩))))
      · rename_i q; exact Or.inr (Or.inr (Or.inr (Or.inr (Or.inr (Or.inl ⟨q, rfl, of_decide_eq_true g5⟩)))))
      · rename_i q; exact Or.inr (Or.inr (Or.inr (Or.inr (Or.inr (Or.inr (Or.inl ⟨q, rfl, of_decide_eq_true g5⟩))))))
      · rename_i q; exact Or.inr (Or.inr (Or.inr (Or.inr (Or.inr (Or.inr (Or.inr ⟨q, rfl, of_decide_eq_true g5⟩))))))
      · cases g5
  · cases h
theorem mv_ss_sum {ad : Nat → Nat} : ∀ (r : List Value), ((r.map (mv_rv ad)).map fun v => v.category).sum = mv_ss r
  | [] => rfl
  | v :: r => by rw [List.map_cons, List.map_cons, List.sum_cons, mv_ss_sum r, mv_rv_cat, mv_ss]; exact Nat.add_comm _ _
theorem mv_tb_good {mt mj : mv_Mt} (h : Cond.code mj.1 mj.2.1 mj.2.2.1 mj.2.2.2.1 ∈ mv_tb) : GoodIn (mv_wsk mt) (mv_wsk mj) := by
  intro w hw
  have : w ∈ mv_tb := by
    rcases List.mem_cons.mp hw with rfl | hw
    · exact h
    · exact hw
  exact ⟨List.mem_cons_of_mem _ this, good_of_word (List.mem_filter.mp this).2⟩
theorem mv_bytes_fit (j : Nat) : fits .byte (.int (mv_bytes.getD j 0)) = true := by
  rcases Nat.lt_or_ge j 96 with h | h
  · have : ∀ j, j < 96 → fits .byte (.int (mv_bytes.getD j 0)) = true := by decide +kernel
    exact this j h
  · have h1 : mv_bytes[j]? = none := List.getElem?_eq_none (show mv_bytes.length ≤ j from h)
    rw [List.getD_eq_getElem?_getD, h1]
    rfl
section CALLS
variable {p : Program} {l : Launch} {e : Env} {s : State} {m : MethodId} {args : Array Value} {below : List Frame} {meth : Method} {c : Code}
variable {k : Nat} {mt : mv_Mt} {S : Nat → mv_Sp} {P : mv_Post} {D : va_G} {cy : Nat → ClassId} {ad0 : Nat → Nat} {sh0 : mv_Shp} {A : Nat → Prop} {R : Jvm.Room}
variable {K : mv_Kt} {ax : List Nat} {pc : Nat} {L : mv_Loc} {st : List Value} {sh : mv_Shp} {M : mv_Mem} {c1 s1 : Nat} {ad : Nat → Nat} {H : Heap} {locs : List Loc} {ls : Array Slot}
set_option maxHeartbeats 4000000 in
theorem mv_c_inv {op ix : Nat}
    (hx : p.tables.exec = Jvm.exec) (hb : c.code = mt.2.1) (hml : c.maxLocals = mt.2.2.1) (hown : s.vm.findClass mt.1.cls = some m.cls) (hts : ∀ w ∈ mv_wsk mt, w.before args s = true)
    (hSo : ∀ j, j < k → mv_Ok l j (S j)) (hK : va_K D mv_cl (mv_tys cy) s) (hG : mv_G ad0 A s) (hA : ∀ q, s.heap.size ≤ q → A q)
    (hKX : ∀ pc L st sh M c1 s1, K pc L st sh M c1 s1 → mv_X p l e s m args below meth c R mt.2.2.1 D cy ad0 sh0 A P pc L st sh M c1 s1)
    (hP : va_P D mv_cl (mv_ws cy ad sh M) H) (hD : va_D A (mv_ws cy ad sh M)) (hS : va_S A s.heap H locs) (hw : mv_wf sh) (hn : sh0.length ≤ sh.length) (ha : ∀ k, k < sh0.length ∨ 1000 ≤ k → ad k = ad0 k) (hl : mv_lk ad sh.length ls L mt.2.2.1) (hv : mv_vs sh.length st)
    (hk : mv_inv S (R.cells, R.slots) K ax pc L st sh M c1 s1) (hg : mv_gca k mt.1.cls R op ix ax = true)
    (hdg : (op = 0 → decode mt.2.1 pc = .ok (.invokevirtual ix, 3)) ∧ (op = 1 → decode mt.2.1 pc = .ok (.invokestatic ix, 3)) ∧ (op = 2 → decode mt.2.1 pc = .ok (.invokespecial ix, 3))) :
    W p l e R s m args below meth c H locs c1 s1 (MQ below (mv_Qc D cy ad0 sh0 A P) args s R.cells R.slots A) (F0 m pc ls (st.map (mv_rv ad))) := by
  obtain ⟨mj, cj, hmj, hcj, ⟨hlt, hfr, hlo, hce, hsl⟩, hmh, hcw, hnest, hkind⟩ := mv_gca_out hg
  unfold mv_inv at hk
  obtain ⟨a, r, rfl, hlen, hss, hcl, hsl2, ⟨hrecv, hrecS⟩, Q, hSp, hQ⟩ := (mv_tk_iff _ _ _).mp hk
  rw [List.append_nil] at hrecv hrecS hSp
  obtain ⟨hva, hvr⟩ := mv_vs_app.mp hv
  have hva := mv_vs_rev.mp hva
  have hM := hSo _ hlt mj hmj a sh M Q hSp hw hva D cy ad H.size
  have hAA : ∀ q, va_A (mv_ws cy ad sh M) H.size q → A q := by
    rintro q (⟨kk, ee, hq⟩ | hq)
    · exact hD.2 kk (q, ee) hq
    · exact hA q (Nat.le_trans hS.1 hq)
  have hZ : ∀ {C n d : String} {v : Value} {U : State}, U.heap = H → s.WarmedH U.vm → va_Z C n d v A s s.heap → va_Z C n d v (va_A (mv_ws cy ad sh M) H.size) U U.heap := by
    intro C n d v U hU hW hz
    rw [hU]
    exact va_Z.narrow (va_Z.kept (va_Z.moved hW.alike hz) hS.2.1) hAA
  have hpre : ∀ U : State, U.heap = H → s.WarmedH U.vm → va_Pc (a.map (mv_rv ad)) (mv_Pre D cy ad sh M H.size) (a.map (mv_rv ad)).toArray U := by
    intro U hU hW
    refine ⟨rfl, by rw [hU], by rw [hU]; exact hP, va_K.moved hW.alike hK, hD.weaken (fun _ _ _ _ => trivial), mv_nw_warm hW hG.1, hZ hU hW hG.2.1, ?_, va_AO.moved hW.alike hG.2.2.2.1, ?_, ?_⟩
    · rw [ha 2000 (Or.inr (by decide))]
      exact hG.2.2.1.imp (hZ hU hW) (hZ hU hW)
    · rw [ha 1000 (Or.inr (by decide))]
      exact vk_R.warm hW hG.2.2.2.2.1
    · rw [ha 1000 (Or.inr (by decide)), ha 1001 (Or.inr (by decide)), hU]
      exact vk_S.narrow (vk_S.kept (vk_S.moved hW.alike hG.2.2.2.2.2) hS.2.1) hAA
  have hfin : ∀ (v : Option Value) (sh' : mv_Shp) (M' : mv_Mem) (ad' : Nat → Nat) (H1 : Heap) (locs1 : List Loc), Q v sh' M' → (∀ k, k < sh.length ∨ 1000 ≤ k → ad' k = ad k) → sh.length ≤ sh'.length → mv_wf sh' → (∀ x, v = some x → mv_vd sh'.length x) → va_P D mv_cl (mv_ws cy ad' sh' M') H1 → va_D A (mv_ws cy ad' sh' M') → va_S A s.heap H1 locs1 →
      W p l e R s m args below meth c H1 locs1 (c1 + mj.2.2.2.2.cells) (s1 + mj.2.2.2.2.slots) (MQ below (mv_Qc D cy ad0 sh0 A P) args s R.cells R.slots A) (F0 m (pc + 3) ls ((v.map (mv_rv ad')).toList ++ r.map (mv_rv ad))) := by
    intro v sh' M' ad' H1 locs1 hq ha' hn' hw' hvv hP1 hD1 hS1
    have h1 := hQ v sh' M' hq
    have hst : (v.toList ++ r).map (mv_rv ad') = (v.map (mv_rv ad')).toList ++ r.map (mv_rv ad) := by
      rw [List.map_append, mv_vs_map ha' hvr]
      cases v <;> rfl
    rw [← hst, hce, hsl]
    refine hKX _ _ _ _ _ _ _ h1 ad' H1 locs1 ls hP1 hD1 hS1 hw' (Nat.le_trans hn hn') (fun kk hkk => ?_) (hl.moved hn' ha') (mv_vs_app.mpr ⟨?_, mv_vs_mono hn' hvr⟩) hcl hsl2
    · rw [ha' kk (hkk.imp (fun z => Nat.lt_of_lt_of_le z hn) id), ha kk hkk]
    · cases v with
      | none => trivial
      | some x => exact ⟨hvv x rfl, trivial⟩
  have hfix : CallFix p m c mt.2.1 mt.2.2.1 s args (mv_wsk mt) mt.1.cls := ⟨hx, hb, hml, hown, hts⟩
  have htb : ∀ w ∈ mv_tb, w.before args s = true := fun w hw => hts w (List.mem_cons_of_mem _ hw)
  have hsum : ((r.map (mv_rv ad)).map fun v => v.category).sum ≤ 8 := by rw [mv_ss_sum]; exact hss
  have hcs : c1 + mj.2.2.2.2.cells ≤ R.cells ∧ s1 + mj.2.2.2.2.slots ≤ R.slots := by rw [hce, hsl]; exact ⟨hcl, hsl2⟩
  have hfree : ∀ q, va_A (mv_ws cy ad sh M) H.size q → A q := hAA
  have hmap : (a.reverse ++ r).map (mv_rv ad) = (a.map (mv_rv ad)).reverse ++ r.map (mv_rv ad) := by rw [List.map_append, List.map_reverse]
  -- an instance method's receiver
  have hhead : 0 < mv_x2 ax → ∃ x a', a = x :: a' := fun z => by
    cases a with
    | nil => simp at hlen; omega
    | cons x a' => exact ⟨x, a', rfl⟩
  have hrec : mv_x0 ax < 3 ∨ 4 < mv_x0 ax ∧ mv_x0 ax < 8 → ∃ b fs a', a = .ref b :: a' ∧ sh[b]? = some (.inr (.inl (mv_x3 ax, fs))) := by
    intro z
    have h1 := hrecv z
    unfold mv_isO at h1
    split at h1
    · rename_i b hb0
      split at h1
      · rename_i ci fs hq
        subst h1
        cases a with
        | nil => cases hb0
        | cons x a' => cases hb0; exact ⟨b, fs, a', rfl, hq⟩
      · exact h1.elim
    · exact h1.elim
  rw [hmap]
  rcases hkind with ⟨h0, h1, h2, h3⟩ | ⟨h0, h1, h2, h3⟩ | ⟨h0, h1, h2, h3, h4⟩ | ⟨h0, h1, h2, h3⟩ | ⟨h0, h1, h2⟩ | ⟨h0, h1, h2⟩ | ⟨h0, h1, h2, h3, h4, h5⟩ | ⟨h0, h1, h2, h3, h4, h5⟩
  · obtain ⟨b, fs, a', rfl, hsb⟩ := hrec (by rw [h0]; exact Or.inl (by decide))
    rw [h0] at hcw
    have hcode := hcw _ (List.mem_cons_of_mem _ (List.mem_cons_of_mem _ (List.mem_cons_of_mem _ (List.mem_cons_of_mem _ List.mem_cons_self))))
    refine mv_callQ (va_runV (As := a'.map (mv_rv ad)) (rest := r.map (mv_rv ad)) hfix hM ⟨callB_of _ hts (mv_tb_good hcode) rfl rfl rfl (htb _ (hcw _ (List.mem_cons_of_mem _ (List.mem_cons_of_mem _ (List.mem_cons_of_mem _ List.mem_cons_self))))) (htb _ (hcw _ List.mem_cons_self)) ⟨hmh.1, hmh.2, h2⟩ ⟨hfr, hlo⟩, htb _ (hcw _ (List.mem_cons_of_mem _ List.mem_cons_self)), htb _ (hcw _ (List.mem_cons_of_mem _ (List.mem_cons_of_mem _ List.mem_cons_self)))⟩ ⟨mv_pre_blind, va_recv hK hP hcj (mv_ws_at hsb), hpre⟩ rfl (by rw [List.length_map]; simp at hlen; omega) hl.1 (by rw [List.map_cons, List.reverse_cons, List.append_assoc]; rfl) (lv_room hsum) (hdg.1 h1) hcs) hS hAA hfree hfin
  · obtain ⟨b, fs, a', rfl, hsb⟩ := hrec (by rw [h0]; exact Or.inl (by decide))
    rw [h0] at hcw hnest
    have hcode := hcw _ (List.mem_cons_of_mem _ (List.mem_cons_of_mem _ (List.mem_cons_of_mem _ List.mem_cons_self)))
    refine mv_callQ (va_runVN (As := a'.map (mv_rv ad)) (rest := r.map (mv_rv ad)) hfix hM ⟨va_cnB _ hts (mv_tb_good hcode) rfl rfl rfl (hG.1 _ (hnest rfl)) (htb _ (hcw _ (List.mem_cons_of_mem _ (List.mem_cons_of_mem _ List.mem_cons_self)))) ⟨hmh.1, hmh.2, h2⟩ ⟨hfr, hlo⟩, htb _ (hcw _ List.mem_cons_self), htb _ (hcw _ (List.mem_cons_of_mem _ List.mem_cons_self))⟩ ⟨mv_pre_blind, va_recv hK hP hcj (mv_ws_at hsb), hpre⟩ rfl (by rw [List.length_map]; simp at hlen; omega) hl.1 (by rw [List.map_cons, List.reverse_cons, List.append_assoc]; rfl) (lv_room hsum) (hdg.1 h1) hcs) hS hAA hfree hfin
  · obtain ⟨b, fs, a', rfl, hsb⟩ := hrec (by rw [h0]; exact Or.inl (by decide))
    rw [h0] at hcw
    have hcode := hcw _ (List.mem_cons_of_mem _ (List.mem_cons_of_mem _ (List.mem_cons_of_mem _ (List.mem_cons_of_mem _ (List.mem_cons_of_mem _ List.mem_cons_self)))))
    have hsu : GoodIn (mv_wsk mt) (va_wsSU mt.1.cls ix mj.1 (mv_wsk mj)) := by
      intro w hw2
      have hin : w ∈ mv_tb := by
        unfold va_wsSU at hw2
        rcases List.mem_append.mp hw2 with hw2 | hw2
        · exact hcw w (List.mem_append_left [Cond.code mj.1 mj.2.1 mj.2.2.1 mj.2.2.2.1] hw2)
        · exact (List.mem_cons.mp hw2).elim (fun z => z ▸ hcode) id
      exact ⟨List.mem_cons_of_mem _ hin, good_of_word (List.mem_filter.mp hin).2⟩
    refine mv_callQ (va_runSU (As := a'.map (mv_rv ad)) (rest := r.map (mv_rv ad)) (hK.1 _ _ hcj).2 hfix hM (va_cwSU _ hts hsu rfl rfl rfl ⟨h4, h2⟩ ⟨hfr, hlo⟩) ⟨mv_pre_blind, va_recv hK hP hcj (mv_ws_at hsb), hpre⟩ rfl (by rw [List.length_map]; simp at hlen; omega) hl.1 (by rw [List.map_cons, List.reverse_cons, List.append_assoc]; rfl) (lv_room hsum) (hdg.2.2 h1) hcs) hS hAA hfree hfin
  · have hh := hrecS h0
    obtain ⟨x, a', rfl⟩ := hhead h3
    cases hh
    rw [h0] at hcw
    have hcode := hcw _ (List.mem_cons_of_mem _ (List.mem_cons_of_mem _ (List.mem_cons_of_mem _ (List.mem_cons_of_mem _ List.mem_cons_self))))
    have hrs := vk_recv (i := 0) hG.2.2.2.2.2 (by decide) hS
    rw [← ha 1000 (Or.inr (by decide))] at hrs
    refine mv_callQ (va_runV (As := a'.map (mv_rv ad)) (rest := r.map (mv_rv ad)) hfix hM ⟨callB_of _ hts (mv_tb_good hcode) rfl rfl rfl (htb _ (hcw _ (List.mem_cons_of_mem _ (List.mem_cons_of_mem _ (List.mem_cons_of_mem _ List.mem_cons_self))))) (htb _ (hcw _ List.mem_cons_self)) ⟨hmh.1, hmh.2, h2⟩ ⟨hfr, hlo⟩, htb _ (hcw _ (List.mem_cons_of_mem _ List.mem_cons_self)), htb _ (hcw _ (List.mem_cons_of_mem _ (List.mem_cons_of_mem _ List.mem_cons_self)))⟩ ⟨mv_pre_blind, hrs, hpre⟩ rfl (by rw [List.length_map]; simp at hlen; omega) hl.1 (by rw [List.map_cons, List.reverse_cons, List.append_assoc]; rfl) (lv_room hsum) (hdg.1 h1) hcs) hS hAA hfree hfin
  · rw [h0] at hcw
    have hcode := hcw _ (List.mem_cons_of_mem _ (List.mem_cons_of_mem _ (List.mem_cons_of_mem _ List.mem_cons_self)))
    refine mv_callQ (va_runS (As := a.map (mv_rv ad)) (rest := r.map (mv_rv ad)) hfix hM ⟨callB_of _ hts (mv_tb_good hcode) rfl rfl rfl (htb _ (hcw _ (List.mem_cons_of_mem _ (List.mem_cons_of_mem _ List.mem_cons_self)))) (htb _ (hcw _ List.mem_cons_self)) ⟨hmh.1, hmh.2, h2⟩ ⟨hfr, hlo⟩, htb _ (hcw _ (List.mem_cons_of_mem _ List.mem_cons_self))⟩ ⟨mv_pre_blind, hpre⟩ rfl (by rw [List.length_map]; exact hlen) hl.1 rfl (lv_room hsum) (hdg.2.1 h1) hcs) hS hAA hfree hfin
  · rw [h0] at hcw hnest
    have hcode := hcw _ (List.mem_cons_of_mem _ (List.mem_cons_of_mem _ List.mem_cons_self))
    refine mv_callQ (va_runSN (As := a.map (mv_rv ad)) (rest := r.map (mv_rv ad)) hfix hM ⟨va_cnB _ hts (mv_tb_good hcode) rfl rfl rfl (hG.1 _ (hnest rfl)) (htb _ (hcw _ (List.mem_cons_of_mem _ List.mem_cons_self))) ⟨hmh.1, hmh.2, h2⟩ ⟨hfr, hlo⟩, htb _ (hcw _ List.mem_cons_self), trivial⟩ ⟨mv_pre_blind, hpre⟩ rfl (by rw [List.length_map]; exact hlen) hl.1 rfl (lv_room hsum) (hdg.2.1 h1) hcs) hS hAA hfree hfin
  · obtain ⟨b, fs, a', rfl, hsb⟩ := hrec (by rw [h0]; exact Or.inr ⟨by decide, by decide⟩)
    rw [h0] at hcw
    have hcode := hcw _ (List.mem_cons_of_mem _ (List.mem_cons_of_mem _ (List.mem_cons_of_mem _ List.mem_cons_self)))
    refine mv_callQ (va_runI (As := a'.map (mv_rv ad)) (rest := r.map (mv_rv ad)) hfix hM ⟨callB_of (ws' := mv_tb) _ hts (mv_tb_good hcode) (by unfold mv_wsk; rw [h5]) rfl rfl (htb _ (hcw _ (List.mem_cons_of_mem _ (List.mem_cons_of_mem _ List.mem_cons_self)))) (htb _ (hcw _ List.mem_cons_self)) ⟨hmh.1, hmh.2, h2⟩ ⟨hfr, hlo⟩, h4, htb _ (hcw _ (List.mem_cons_of_mem _ List.mem_cons_self))⟩ ⟨mv_pre_blind, hpre⟩ rfl (by rw [List.length_map]; simp at hlen; omega) hl.1 (by rw [List.map_cons, List.reverse_cons, List.append_assoc]; rfl) (lv_room hsum) (hdg.2.2 h1) hcs) hS hAA hfree hfin
  · obtain ⟨b, fs, a', rfl, hsb⟩ := hrec (by rw [h0]; exact Or.inr ⟨by decide, by decide⟩)
    rw [h0] at hcw hnest
    have hcode := hcw _ (List.mem_cons_of_mem _ (List.mem_cons_of_mem _ List.mem_cons_self))
    refine mv_callQ (va_runIN (As := a'.map (mv_rv ad)) (rest := r.map (mv_rv ad)) hfix hM ⟨va_cnB (ws' := mv_tb) _ hts (mv_tb_good hcode) (by unfold mv_wsk; rw [h5]) rfl rfl (hG.1 _ (hnest rfl)) (htb _ (hcw _ (List.mem_cons_of_mem _ List.mem_cons_self))) ⟨hmh.1, hmh.2, h2⟩ ⟨hfr, hlo⟩, h4, htb _ (hcw _ List.mem_cons_self)⟩ ⟨mv_pre_blind, hpre⟩ rfl (by rw [List.length_map]; simp at hlen; omega) hl.1 (by rw [List.map_cons, List.reverse_cons, List.append_assoc]; rfl) (lv_room hsum) (hdg.2.2 h1) hcs) hS hAA hfree hfin
/-- every call -/
theorem mv_c_ivk {op ix : Nat} (hRe : R = mt.2.2.2.2)
    (hx : p.tables.exec = Jvm.exec) (hb : c.code = mt.2.1) (hml : c.maxLocals = mt.2.2.1) (hown : s.vm.findClass mt.1.cls = some m.cls) (hts : ∀ w ∈ mv_wsk mt, w.before args s = true)
    (hSo : ∀ j, j < k → mv_Ok l j (S j)) (hK : va_K D mv_cl (mv_tys cy) s) (hG : mv_G ad0 A s) (hA : ∀ q, s.heap.size ≤ q → A q)
    (hKX : ∀ pc L st sh M c1 s1, K pc L st sh M c1 s1 → mv_X p l e s m args below meth c R mt.2.2.1 D cy ad0 sh0 A P pc L st sh M c1 s1)
    (hP : va_P D mv_cl (mv_ws cy ad sh M) H) (hD : va_D A (mv_ws cy ad sh M)) (hS : va_S A s.heap H locs) (hw : mv_wf sh) (hn : sh0.length ≤ sh.length) (ha : ∀ k, k < sh0.length ∨ 1000 ≤ k → ad k = ad0 k) (hl : mv_lk ad sh.length ls L mt.2.2.1) (hv : mv_vs sh.length st) (hc1 : c1 ≤ R.cells) (hs1 : s1 ≤ R.slots)
    (hk : mv_ivk S (R.cells, R.slots) K ax pc L st sh M c1 s1) (hg : mv_giv k mt.1.cls mt.2.2.2.2 op ix ax = true)
    (hdg : (op = 0 → decode mt.2.1 pc = .ok (.invokevirtual ix, 3)) ∧ (op = 1 → decode mt.2.1 pc = .ok (.invokestatic ix, 3)) ∧ (op = 2 → decode mt.2.1 pc = .ok (.invokespecial ix, 3))) :
    W p l e R s m args below meth c H locs c1 s1 (MQ below (mv_Qc D cy ad0 sh0 A P) args s R.cells R.slots A) (F0 m pc ls (st.map (mv_rv ad))) := by
  have htb : ∀ w ∈ mv_tb, w.before args s = true := fun w hw => hts w (List.mem_cons_of_mem _ hw)
  have hmls : c.maxLocals = ls.size := hml.trans hl.1.symm
  unfold mv_ivk at hk
  unfold mv_giv at hg
  rw [← hRe] at hg
  split at hk
  · rename_i r0
    have hg : (decide (op = 1 ∧ 1 ≤ R.frames ∧ 8 + (nativeFrameWords "java/lang/System" "arraycopy" 5 + 11) ≤ R.locals) && mv_chk [.methodLink mt.1.cls ix arraycopyName, .native arraycopyName, .static arraycopyName, .initialized "java/lang/System"] r0) = true := hg
    rw [Bool.and_eq_true, decide_eq_true_eq] at hg
    obtain ⟨⟨h1, h2, h3⟩, h4⟩ := hg
    have hcw := mv_chk_in h4
    unfold mv_acp at hk
    obtain ⟨n, r, rfl, hk1⟩ := mv_pI_iff.mp hk
    obtain ⟨dp, r, rfl, hk2⟩ := mv_pI_iff.mp hk1
    obtain ⟨d, r, rfl, hk3⟩ := mv_pA_iff.mp hk2
    obtain ⟨sp, r, rfl, hk4⟩ := mv_pI_iff.mp hk3
    obtain ⟨a, r, rfl, hk5⟩ := mv_pA_iff.mp hk4
    obtain ⟨t0, n0, ha0, hk6⟩ := mv_nums_iff.mp hk5
    obtain ⟨t1, n1, ha1, ⟨hss, rfl, htt, q1, q2, q3, q4, q5⟩, hk7⟩ := mv_nums_iff.mp hk6
    have e1 := mv_ws_wr (cy := cy) (ad := ad) (M := M) (g := va_cpy (M a) (M d) sp.toNatClampNeg dp.toNatClampNeg n.toNatClampNeg) ha1
    have hgo : ∀ (H1 : Heap) (locs1 : List Loc), va_P D mv_cl ((mv_ws cy ad sh M).set d (ad d, mv_cell cy ad (va_cpy (M a) (M d) sp.toNatClampNeg dp.toNatClampNeg n.toNatClampNeg) (.inl (t0, n1)))) H1 → va_D A ((mv_ws cy ad sh M).set d (ad d, mv_cell cy ad (va_cpy (M a) (M d) sp.toNatClampNeg dp.toNatClampNeg n.toNatClampNeg) (.inl (t0, n1)))) → va_S A s.heap H1 locs1 →
        W p l e R s m args below meth c H1 locs1 c1 s1 (MQ below (mv_Qc D cy ad0 sh0 A P) args s R.cells R.slots A) (F0 m (pc + 3) ls (r.map (mv_rv ad))) := by
      intro H1 locs1 hP1 hD1 hS1
      rw [e1] at hP1 hD1
      exact hKX _ _ _ _ _ _ _ hk7 ad H1 locs1 ls hP1 hD1 hS1 hw hn ha hl hv.2.2.2.2.2 hc1 hs1
    rcases htt with rfl | ⟨rfl, hfit⟩
    · exact va_copyi hx hb hmls hown (htb _ (hcw _ List.mem_cons_self)) (htb _ (hcw _ (List.mem_cons_of_mem _ List.mem_cons_self))) (htb _ (hcw _ (List.mem_cons_of_mem _ (List.mem_cons_of_mem _ List.mem_cons_self)))) (htb _ (hcw _ (List.mem_cons_of_mem _ (List.mem_cons_of_mem _ (List.mem_cons_of_mem _ List.mem_cons_self))))) hK hP hD hS a d 0 0 (mv_ws_at ha0) (mv_ws_at ha1) rfl rfl rfl q1 q2 q3 q4 q5 (fun _ _ => rfl) h2 (by rw [mv_ss_sum]; omega) (hdg.2.1 h1) hgo
    · exact va_copyi hx hb hmls hown (htb _ (hcw _ List.mem_cons_self)) (htb _ (hcw _ (List.mem_cons_of_mem _ List.mem_cons_self))) (htb _ (hcw _ (List.mem_cons_of_mem _ (List.mem_cons_of_mem _ List.mem_cons_self)))) (htb _ (hcw _ (List.mem_cons_of_mem _ (List.mem_cons_of_mem _ (List.mem_cons_of_mem _ List.mem_cons_self))))) hK hP hD hS a d 1 1 (mv_ws_at ha0) (mv_ws_at ha1) rfl rfl rfl q1 q2 q3 q4 q5 (fun i hi => by rw [← hfit i hi]; exact pk_fb _) h2 (by rw [mv_ss_sum]; omega) (hdg.2.1 h1) hgo
  · rename_i r0
    have hg : (decide (op = 1 ∧ 1 ≤ R.frames ∧ 21 ≤ R.locals) && mv_chk [.methodLink mt.1.cls ix Lib.Math.min.name, .static Lib.Math.min.name, .initialized "java/lang/Math", .code Lib.Math.min.name Lib.Math.min.code 2 (some .int)] r0) = true := hg
    rw [Bool.and_eq_true, decide_eq_true_eq] at hg
    obtain ⟨⟨h1, h2, h3⟩, h4⟩ := hg
    have hcw := mv_chk_in h4
    obtain ⟨hss, hk⟩ := hk
    obtain ⟨y, r, rfl, hk1⟩ := mv_pI_iff.mp hk
    obtain ⟨x, r, rfl, hk2⟩ := mv_pI_iff.mp hk1
    refine va_mmin hx hb hmls hown (htb _ (hcw _ List.mem_cons_self)) (htb _ (hcw _ (List.mem_cons_of_mem _ List.mem_cons_self))) (htb _ (hcw _ (List.mem_cons_of_mem _ (List.mem_cons_of_mem _ List.mem_cons_self)))) (htb _ (hcw _ (List.mem_cons_of_mem _ (List.mem_cons_of_mem _ (List.mem_cons_of_mem _ List.mem_cons_self))))) h2 (by rw [mv_ss_sum]; simp only [mv_ss] at hss; omega) hc1 hs1 (hdg.2.1 h1) ?_
    exact hKX _ _ _ _ _ _ _ hk2 ad H locs ls hP hD hS hw hn ha hl ⟨trivial, hv.2.2⟩ hc1 hs1
  · rename_i r0
    have hg : (decide (op = 1 ∧ 1 ≤ R.frames ∧ 21 ≤ R.locals) && mv_chk [.methodLink mt.1.cls ix Lib.Math.abs.name, .static Lib.Math.abs.name, .initialized "java/lang/Math", .code Lib.Math.abs.name Lib.Math.abs.code 1 (some .int)] r0) = true := hg
    rw [Bool.and_eq_true, decide_eq_true_eq] at hg
    obtain ⟨⟨h1, h2, h3⟩, h4⟩ := hg
    have hcw := mv_chk_in h4
    obtain ⟨hss, hk⟩ := hk
    obtain ⟨x, r, rfl, hk2⟩ := mv_pI_iff.mp hk
    refine va_mabs hx hb hmls hown (htb _ (hcw _ List.mem_cons_self)) (htb _ (hcw _ (List.mem_cons_of_mem _ List.mem_cons_self))) (htb _ (hcw _ (List.mem_cons_of_mem _ (List.mem_cons_of_mem _ List.mem_cons_self)))) (htb _ (hcw _ (List.mem_cons_of_mem _ (List.mem_cons_of_mem _ (List.mem_cons_of_mem _ List.mem_cons_self))))) h2 (by rw [mv_ss_sum]; simp only [mv_ss] at hss; omega) hc1 hs1 (hdg.2.1 h1) ?_
    exact hKX _ _ _ _ _ _ _ hk2 ad H locs ls hP hD hS hw hn ha hl ⟨trivial, hv.2⟩ hc1 hs1
  · rename_i r0
    have hg : (decide (op = 2 ∧ 1 ≤ R.frames ∧ 21 ≤ R.locals) && mv_chk [.methodLink mt.1.cls ix Lib.objectInit, .instanceMethod Lib.objectInit, .code Lib.objectInit ⟨#[0xb1]⟩ 1 none] r0) = true := hg
    rw [Bool.and_eq_true, decide_eq_true_eq] at hg
    obtain ⟨⟨h1, h2, h3⟩, h4⟩ := hg
    have hcw := mv_chk_in h4
    obtain ⟨hss, hk⟩ := hk
    obtain ⟨x, r, rfl, hk2⟩ := mv_pA_iff.mp hk
    have hsum : ((r.map (mv_rv ad)).map fun v => v.category).sum ≤ 8 := by rw [mv_ss_sum]; simp only [mv_ss] at hss; omega
    refine W.objInit hx hb hown (htb _ (hcw _ List.mem_cons_self)) (htb _ (hcw _ (List.mem_cons_of_mem _ List.mem_cons_self))) (htb _ (hcw _ (List.mem_cons_of_mem _ (List.mem_cons_of_mem _ List.mem_cons_self)))) rfl hmls.symm rfl (hdg.2.2 h1) h2 (Nat.le_trans (Nat.add_le_add_right (lv_room (m := m) (pc := pc) (ls := ls) hsum) 12) (by omega)) ?_
    exact hKX _ _ _ _ _ _ _ hk2 ad H locs ls hP hD hS hw hn ha hl hv.2 hc1 hs1
  · rename_i r0
    have hg : (decide (op = 1 ∧ 1 ≤ R.frames ∧ 8 + (nativeFrameWords "java/lang/System" "arraycopy" 5 + 11) ≤ R.locals) && mv_chk [.methodLink mt.1.cls ix arraycopyName, .native arraycopyName, .static arraycopyName, .initialized "java/lang/System"] r0) = true := hg
    rw [Bool.and_eq_true, decide_eq_true_eq] at hg
    obtain ⟨⟨h1, h2, h3⟩, h4⟩ := hg
    have hcw := mv_chk_in h4
    unfold mv_acr at hk
    obtain ⟨n, r, rfl, hk1⟩ := mv_pI_iff.mp hk
    obtain ⟨dp, r, rfl, hk2⟩ := mv_pI_iff.mp hk1
    obtain ⟨d, r, rfl, hk3⟩ := mv_pA_iff.mp hk2
    obtain ⟨sp, r, rfl, hk4⟩ := mv_pI_iff.mp hk3
    obtain ⟨a, r, rfl, hk5⟩ := mv_pA_iff.mp hk4
    obtain ⟨t1, n1, ha1, ⟨hss, rfl, rfl, q1, q2, q3, q4, q5⟩, hk7⟩ := mv_nums_iff.mp hk5
    have e1 := mv_ws_wr (cy := cy) (ad := ad) (M := M) (g := va_cpy (fun j => mv_bytes.getD j 0) (M d) sp.toNatClampNeg dp.toNatClampNeg n.toNatClampNeg) ha1
    have hT := (hG.2.2.2.2.2.1 0 (by decide)).2.2.2
    rw [← ha 1001 (Or.inr (by decide))] at hT
    refine vk_copyt hx hb hmls hown (htb _ (hcw _ List.mem_cons_self)) (htb _ (hcw _ (List.mem_cons_of_mem _ List.mem_cons_self))) (htb _ (hcw _ (List.mem_cons_of_mem _ (List.mem_cons_of_mem _ List.mem_cons_self)))) (htb _ (hcw _ (List.mem_cons_of_mem _ (List.mem_cons_of_mem _ (List.mem_cons_of_mem _ List.mem_cons_self))))) hK hP hD hS (f := fun j => mv_bytes.getD j 0) hT d 1 (mv_ws_at ha1) rfl q1 q2 q3 q4 q5 (fun i hi => mv_bytes_fit _) h2 (by rw [mv_ss_sum]; omega) (hdg.2.1 h1) (fun H1 locs1 hP1 hD1 hS1 => ?_)
    replace hP1 : va_P D mv_cl ((mv_ws cy ad sh M).set d (ad d, mv_cell cy ad (va_cpy (fun j => mv_bytes.getD j 0) (M d) sp.toNatClampNeg dp.toNatClampNeg n.toNatClampNeg) (.inl (1, n1)))) H1 := hP1
    replace hD1 : va_D A ((mv_ws cy ad sh M).set d (ad d, mv_cell cy ad (va_cpy (fun j => mv_bytes.getD j 0) (M d) sp.toNatClampNeg dp.toNatClampNeg n.toNatClampNeg) (.inl (1, n1)))) := hD1
    rw [e1] at hP1 hD1
    exact hKX _ _ _ _ _ _ _ hk7 ad H1 locs1 ls hP1 hD1 hS1 hw hn ha hl hv.2.2.2.2.2 hc1 hs1
  · rename_i hno1 hno2 hno3 hno4 hno5
    refine mv_c_inv hx hb hml hown hts hSo hK hG hA hKX hP hD hS hw hn ha hl hv hk ?_ hdg
    split at hg
    · exact absurd rfl (hno1 _)
    · exact absurd rfl (hno2 _)
    · exact absurd rfl (hno3 _)
    · exact absurd rfl (hno4 _)
    · exact absurd rfl (hno5 _)
    · exact hg
/-- a new object -/
theorem mv_c_new {ix : Nat}
    (hx : p.tables.exec = Jvm.exec) (hb : c.code = mt.2.1) (hown : s.vm.findClass mt.1.cls = some m.cls) (hts : ∀ w ∈ mv_wsk mt, w.before args s = true)
    (hK : va_K D mv_cl (mv_tys cy) s) (hA : ∀ q, s.heap.size ≤ q → A q)
    (hKX : ∀ pc L st sh M c1 s1, K pc L st sh M c1 s1 → mv_X p l e s m args below meth c R mt.2.2.1 D cy ad0 sh0 A P pc L st sh M c1 s1)
    (hP : va_P D mv_cl (mv_ws cy ad sh M) H) (hD : va_D A (mv_ws cy ad sh M)) (hS : va_S A s.heap H locs) (hw : mv_wf sh) (hn : sh0.length ≤ sh.length) (ha : ∀ k, k < sh0.length ∨ 1000 ≤ k → ad k = ad0 k) (hl : mv_lk ad sh.length ls L mt.2.2.1) (hv : mv_vs sh.length st)
    (hk : (sh.length < 900 ∧ c1 + 1 ≤ R.cells ∧ s1 + mv_x4 ax ≤ R.slots) ∧ (match mv_DF[mv_x3 ax]? with
    | some fs => K (pc + 3) L (.ref sh.length :: st) (sh ++ [.inr (.inl (mv_x3 ax, fs))]) (mv_wr M sh.length (fun _ => 0)) (c1 + 1) (s1 + mv_x4 ax)
    | none => False)) (hg : (match mv_cl[mv_x3 ax]? with
    | some c => decide (c.2.2 = mv_x4 ax) && mv_chk [.classLink mt.1.cls ix c.1, .instantiable c.1 c.2.2, .initialized c.1] [mv_x0 ax, mv_x1 ax, mv_x2 ax]
    | none => false) = true) (hdg : decode mt.2.1 pc = .ok (.new ix, 3)) :
    W p l e R s m args below meth c H locs c1 s1 (MQ below (mv_Qc D cy ad0 sh0 A P) args s R.cells R.slots A) (F0 m pc ls (st.map (mv_rv ad))) := by
  have htb : ∀ w ∈ mv_tb, w.before args s = true := fun w hw => hts w (List.mem_cons_of_mem _ hw)
  obtain ⟨⟨hl9, hc1, hs1⟩, hk⟩ := hk
  split at hg
  · rename_i cq hcq
    obtain ⟨C, T, N⟩ := cq
    rw [Bool.and_eq_true, decide_eq_true_eq] at hg
    obtain ⟨h1, h2⟩ := hg
    have hcw := mv_chk_in h2
    split at hk
    · rename_i fs hfs
      obtain ⟨t, ht⟩ : ∃ t, mv_ty[mv_x3 ax]? = some t := by
        have h3 := (List.getElem?_eq_some_iff.mp hcq).1
        exact ⟨_, List.getElem?_eq_getElem (l := mv_ty) (i := mv_x3 ax) h3⟩
      have hz : (((C, T, N), t), fs) ∈ (mv_cl.zip mv_ty).zip mv_DF := by
        refine List.mem_of_getElem? (i := mv_x3 ax) ?_
        rw [List.getElem?_zip_eq_some, List.getElem?_zip_eq_some]
        exact ⟨⟨hcq, ht⟩, hfs⟩
      have hzt : ((C, T, N), t) ∈ mv_cl.zip mv_ty := by
        refine List.mem_of_getElem? (i := mv_x3 ax) ?_
        rw [List.getElem?_zip_eq_some]
        exact ⟨hcq, ht⟩
      obtain ⟨d1, d2, d3⟩ := mv_DF_ok _ hz
      dsimp only at h1 d1 d2
      rw [← h1] at hs1 hk
      refine va_new (ci := mv_x3 ax) (fs := mv_fs id (fun _ => 0) fs) hx hb htb (mv_cl_words hcq) t (mv_cl_ty _ hzt) hown (htb _ (hcw _ List.mem_cons_self)) (htb _ (hcw _ (List.mem_cons_of_mem _ List.mem_cons_self))) (htb _ (hcw _ (List.mem_cons_of_mem _ (List.mem_cons_of_mem _ List.mem_cons_self)))) hK hP hD hS hA hcq d2 hc1 hs1 hdg (fun q H1 hP1 hD1 hS1 => ?_)
      have hag : ∀ k, k < sh.length ∨ 1000 ≤ k → (fun k => if k = sh.length then q else ad k) k = ad k := fun k hkk => if_neg (by have := hw.1; omega)
      have e1 := mv_ws_push (cy := cy) (ad := ad) (M := M) (e := .inr (.inl (mv_x3 ax, fs))) (q := q) (g := fun _ => 0) hw
      have e2 : mv_cell cy (fun k => if k = sh.length then q else ad k) (fun _ => 0) (.inr (.inl (mv_x3 ax, fs))) = .inr (mv_x3 ax, mv_fs id (fun _ => 0) fs) := by
        show Sum.inr (mv_x3 ax, mv_fs _ (fun _ => 0) fs) = _
        rw [mv_fs_null d3]
      rw [e2] at e1
      rw [← e1] at hP1 hD1
      have hst : ((Value.ref sh.length :: st).map (mv_rv (fun k => if k = sh.length then q else ad k))) = .ref q :: st.map (mv_rv ad) := by
        rw [List.map_cons, mv_vs_map hag hv]
        exact congrArg (fun z => Value.ref z :: _) (if_pos rfl)
      rw [← hst]
      have hlen1 : (sh ++ [(Sum.inr (Sum.inl (mv_x3 ax, fs)) : mv_Sh1)]).length = sh.length + 1 := by simp
      refine hKX _ _ _ _ _ _ _ hk _ H1 locs ls hP1 hD1 hS1 (mv_wf_push hw hl9 ?_) (by rw [hlen1]; omega) (fun k hkk => (hag k (hkk.imp (fun z => Nat.lt_of_lt_of_le z hn) id)).trans (ha k hkk)) (by rw [hlen1]; exact hl.moved (Nat.le_succ _) hag) (by rw [hlen1]; exact ⟨Or.inl (Nat.lt_succ_self _), mv_vs_mono (Nat.le_succ _) hv⟩) hc1 hs1
      intro j v hj
      have := of_decide_eq_true (List.all_eq_true.mp d3 _ (List.mem_of_getElem? hj))
      rcases this with h | h
      · cases h
      · cases h; trivial
    · exact hk.elim
  · cases hg
/-- a new array, of numbers or of references -/
theorem mv_c_arr {N pc' : Nat} {e1 : mv_Sh1}
    (hKX : ∀ pc L st sh M c1 s1, K pc L st sh M c1 s1 → mv_X p l e s m args below meth c R mt.2.2.1 D cy ad0 sh0 A P pc L st sh M c1 s1)
    (hw : mv_wf sh) (hn : sh0.length ≤ sh.length) (ha : ∀ k, k < sh0.length ∨ 1000 ≤ k → ad k = ad0 k) (hl : mv_lk ad sh.length ls L mt.2.2.1) (hv : mv_vs sh.length st)
    (hl9 : sh.length < 900) (hc1 : c1 + 1 ≤ R.cells) (hs1 : s1 + N ≤ R.slots) (he1 : ∀ a2 a3 f, mv_cell cy a2 f e1 = mv_cell cy a3 f e1) (hve : ∀ n, mv_ve n e1)
    (hk : K pc' L (.ref sh.length :: st) (sh ++ [e1]) (mv_wr M sh.length (fun _ => 0)) (c1 + 1) (s1 + N))
    {q : Nat} {H1 : Heap} (hP1 : va_P D mv_cl (mv_ws cy ad sh M ++ [(q, mv_cell cy ad (fun _ => 0) e1)]) H1) (hD1 : va_D A (mv_ws cy ad sh M ++ [(q, mv_cell cy ad (fun _ => 0) e1)])) (hS1 : va_S A s.heap H1 locs) :
    W p l e R s m args below meth c H1 locs (c1 + 1) (s1 + N) (MQ below (mv_Qc D cy ad0 sh0 A P) args s R.cells R.slots A) (F0 m pc' ls (.ref q :: st.map (mv_rv ad))) := by
  have hag : ∀ k, k < sh.length ∨ 1000 ≤ k → (fun k => if k = sh.length then q else ad k) k = ad k := fun k hkk => if_neg (by have := hw.1; omega)
  have e2 := mv_ws_push (cy := cy) (ad := ad) (M := M) (e := e1) (q := q) (g := fun _ => 0) hw
  rw [he1 _ ad] at e2
  rw [← e2] at hP1 hD1
  have hst : ((Value.ref sh.length :: st).map (mv_rv (fun k => if k = sh.length then q else ad k))) = .ref q :: st.map (mv_rv ad) := by
    rw [List.map_cons, mv_vs_map hag hv]
    exact congrArg (fun z => Value.ref z :: _) (if_pos rfl)
  rw [← hst]
  have hlen1 : (sh ++ [e1]).length = sh.length + 1 := by simp
  exact hKX _ _ _ _ _ _ _ hk _ H1 locs ls hP1 hD1 hS1 (mv_wf_push hw hl9 (hve _)) (by rw [hlen1]; omega) (fun k hkk => (hag k (hkk.imp (fun z => Nat.lt_of_lt_of_le z hn) id)).trans (ha k hkk)) (by rw [hlen1]; exact hl.moved (Nat.le_succ _) hag) (by rw [hlen1]; exact ⟨Or.inl (Nat.lt_succ_self _), mv_vs_mono (Nat.le_succ _) hv⟩) hc1 hs1
theorem mv_c_newarray {t : ArrayType}
    (hx : p.tables.exec = Jvm.exec) (hb : c.code = mt.2.1) (hts : ∀ w ∈ mv_wsk mt, w.before args s = true)
    (hK : va_K D mv_cl (mv_tys cy) s) (hA : ∀ q, s.heap.size ≤ q → A q)
    (hKX : ∀ pc L st sh M c1 s1, K pc L st sh M c1 s1 → mv_X p l e s m args below meth c R mt.2.2.1 D cy ad0 sh0 A P pc L st sh M c1 s1)
    (hP : va_P D mv_cl (mv_ws cy ad sh M) H) (hD : va_D A (mv_ws cy ad sh M)) (hS : va_S A s.heap H locs) (hw : mv_wf sh) (hn : sh0.length ≤ sh.length) (ha : ∀ k, k < sh0.length ∨ 1000 ≤ k → ad k = ad0 k) (hl : mv_lk ad sh.length ls L mt.2.2.1) (hv : mv_vs sh.length st)
    (hk : mv_pI st (fun n st => (sh.length < 900 ∧ ¬ n < 0 ∧ n.toNatClampNeg ≤ 10000 ∧ c1 + 1 ≤ R.cells ∧ s1 + n.toNatClampNeg ≤ R.slots) ∧ K (pc + 2) L (.ref sh.length :: st) (sh ++ [.inl (mv_x1 ax, n.toNatClampNeg)]) (mv_wr M sh.length (fun _ => 0)) (c1 + 1) (s1 + n.toNatClampNeg)))
    (hg : ((match mv_x1 ax, newarray.typeOf t with
    | 0, .int => true
    | 1, .byte => true
    | 2, .boolean => true
    | _, _ => false) && mv_chk [.arrayClass (newarray.typeOf t)] [mv_x0 ax]) = true) (hdg : decode mt.2.1 pc = .ok (.newarray t, 2)) :
    W p l e R s m args below meth c H locs c1 s1 (MQ below (mv_Qc D cy ad0 sh0 A P) args s R.cells R.slots A) (F0 m pc ls (st.map (mv_rv ad))) := by
  have htb : ∀ w ∈ mv_tb, w.before args s = true := fun w hw => hts w (List.mem_cons_of_mem _ hw)
  obtain ⟨n, r, rfl, ⟨hl9, h1, h2, hc1, hs1⟩, hk2⟩ := mv_pI_iff.mp hk
  rw [Bool.and_eq_true] at hg
  obtain ⟨hg1, hg2⟩ := hg
  have harr := htb _ (mv_chk_in hg2 _ List.mem_cons_self)
  have key : ∀ (tt : Nat) (ty : FieldType), mv_x1 ax = tt → newarray.typeOf t = ty → (mv_tys cy)[tt]? = some (cy tt, ty) → componentBytes ty ≤ 8 → (∀ cA : ClassId, vp_cell cA (n.toNatClampNeg, .inl (fun _ => 0)) = arrV cA n.toNatClampNeg (fun _ => defaultValue ty)) →
      W p l e R s m args below meth c H locs c1 s1 (MQ below (mv_Qc D cy ad0 sh0 A P) args s R.cells R.slots A) (F0 m pc ls ((Value.int n :: r).map (mv_rv ad))) := by
    intro tt ty e1 e2 e3 e4 e5
    rw [e1] at hk2
    refine va_newa (a0 := (n.toNatClampNeg, .inl (fun _ => 0))) hx hb harr e2 hK hP hD hS hA e5 h1 rfl (Nat.le_trans (Nat.mul_le_mul h2 e4) (by decide)) hc1 hs1 hdg (fun q cA H1 hK1 hP1 hD1 hS1 => ?_)
    have hcA : cA = cy tt := by
      have g1 := (hK1.2 (mv_tys cy).length (cA, ty) (by rw [List.getElem?_append_right (Nat.le_refl _), Nat.sub_self]; rfl)).2
      have g2 := (hK.2 tt (cy tt, ty) e3).2
      exact mv_sub_ra g1 g2
    subst hcA
    exact mv_c_arr (e1 := .inl (tt, n.toNatClampNeg)) hKX hw hn ha hl hv.2 hl9 hc1 hs1 (fun _ _ _ => rfl) (fun _ => trivial) hk2 hP1 hD1 hS1
  split at hg1
  · rename_i q1 q2; exact key 0 .int q1 q2 rfl (by decide) (fun _ => rfl)
  · rename_i q1 q2; exact key 1 .byte q1 q2 rfl (by decide) (fun _ => rfl)
  · rename_i q1 q2; exact key 2 .boolean q1 q2 rfl (by decide) (fun _ => rfl)
  · cases hg1
theorem mv_c_anewarray {ix : Nat}
    (hx : p.tables.exec = Jvm.exec) (hb : c.code = mt.2.1) (hown : s.vm.findClass mt.1.cls = some m.cls) (hts : ∀ w ∈ mv_wsk mt, w.before args s = true)
    (hK : va_K D mv_cl (mv_tys cy) s) (hG : mv_G ad0 A s) (hA : ∀ q, s.heap.size ≤ q → A q)
    (hKX : ∀ pc L st sh M c1 s1, K pc L st sh M c1 s1 → mv_X p l e s m args below meth c R mt.2.2.1 D cy ad0 sh0 A P pc L st sh M c1 s1)
    (hP : va_P D mv_cl (mv_ws cy ad sh M) H) (hD : va_D A (mv_ws cy ad sh M)) (hS : va_S A s.heap H locs) (hw : mv_wf sh) (hn : sh0.length ≤ sh.length) (ha : ∀ k, k < sh0.length ∨ 1000 ≤ k → ad k = ad0 k) (hl : mv_lk ad sh.length ls L mt.2.2.1) (hv : mv_vs sh.length st)
    (hk : mv_pI st (fun n st => (sh.length < 900 ∧ ¬ n < 0 ∧ n.toNatClampNeg ≤ 10000 ∧ c1 + 1 ≤ R.cells ∧ s1 + n.toNatClampNeg ≤ R.slots) ∧ K (pc + 3) L (.ref sh.length :: st) (sh ++ [.inr (.inr (3, n.toNatClampNeg, fun _ => none))]) (mv_wr M sh.length (fun _ => 0)) (c1 + 1) (s1 + n.toNatClampNeg)))
    (hg : mv_chk [.classLink mt.1.cls ix "TurnedTablets$Cloth"] [mv_x0 ax] = true) (hdg : decode mt.2.1 pc = .ok (.anewarray ix, 3)) :
    W p l e R s m args below meth c H locs c1 s1 (MQ below (mv_Qc D cy ad0 sh0 A P) args s R.cells R.slots A) (F0 m pc ls (st.map (mv_rv ad))) := by
  have htb : ∀ w ∈ mv_tb, w.before args s = true := fun w hw => hts w (List.mem_cons_of_mem _ hw)
  obtain ⟨n, r, rfl, ⟨hl9, h1, h2, hc1, hs1⟩, hk2⟩ := mv_pI_iff.mp hk
  refine va_newq hx hb hown (htb _ (mv_chk_in hg _ List.mem_cons_self)) hG.2.2.2.1 hK hP hD hS hA h1 rfl (Nat.le_trans (Nat.mul_le_mul_right 4 h2) (by decide)) hc1 hs1 hdg (fun q cA H1 hK1 hP1 hD1 hS1 => ?_)
  have hcA : cA = cy 3 := by
    have g1 := (hK1.2 (mv_tys cy).length (cA, .object "TurnedTablets$Cloth") (by rw [List.getElem?_append_right (Nat.le_refl _), Nat.sub_self]; rfl)).2
    have g2 := (hK.2 3 (cy 3, .object "TurnedTablets$Cloth") rfl).2
    exact mv_sub_ra g1 g2
  subst hcA
  exact mv_c_arr (e1 := .inr (.inr (3, n.toNatClampNeg, fun _ => none))) hKX hw hn ha hl hv.2 hl9 hc1 hs1 (fun _ _ _ => rfl) (fun _ j b hj => nomatch hj) hk2 hP1 hD1 hS1
end CALLS
