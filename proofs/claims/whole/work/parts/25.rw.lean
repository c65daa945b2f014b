/-! the law: calls in one of two worlds -/
abbrev lw_A (s : State) : Nat → Prop := fun q => s.heap.size ≤ q
section LAWC
variable {p : Program} {l : Launch} {e : Env} {R : Room} {s : State} {m : MethodId} {args : Array Value} {below : List Frame} {meth : Method} {c : Code} {H : Heap} {locs : List Loc} {cells slots : Nat} {Qt : State → Prop}
variable {pc : Nat} {ls : Array Slot} {rest st0 : List Value} {a : Array Value} {A0 A1 : Nat → Prop} {H0 : Heap} {mc ms : Nat} {free : Addr → Prop}
variable {D : va_G} {cy : Nat → ClassId} {ad : Nat → Nat} {sh : mv_Shp} {M : mv_Mem} {Q : mv_Post} {Wr : va_W}
theorem mv_callR (hr : va_Run p l e R s m args below meth c H locs cells slots mc ms (F0 m pc ls st0) rest (mv_Qc D cy ad sh A1 Q a) free) (hS : va_S A0 H0 H locs) (hA : ∀ q, A1 q → A0 q) (hf : ∀ q, free q → A0 q)
    (kk : ∀ (v : Option Value) (sh' : mv_Shp) (M' : mv_Mem) (ad' : Nat → Nat) (H1 : Heap) (locs1 : List Loc), Q v sh' M' → (∀ k, k < sh.length ∨ 1000 ≤ k → ad' k = ad k) → sh.length ≤ sh'.length → mv_wf sh' → va_P D mv_cl (mv_ws cy ad' sh' M') H1 → va_D A1 (mv_ws cy ad' sh' M') → va_S A0 H0 H1 locs1 → (∀ q, q < H.size → ¬ A1 q → H1[q]? = H[q]?) →
      W p l e R s m args below meth c H1 locs1 (cells + mc) (slots + ms) Qt (F0 m (pc + 3) ls ((v.map (mv_rv ad')).toList ++ rest))) : W p l e R s m args below meth c H locs cells slots Qt (F0 m pc ls st0) := by
  intro T hT X
  obtain ⟨v, st₀, t, T', L, h0, X', hL, e1, e2, ⟨⟨w, sh', M', ad', q1, hv, q2, q3, q4, q5, q6, q7⟩, hz, hk⟩, st⟩ := hr T hT X
  cases hv
  rw [h0] at hz hk
  rw [← e1] at q6
  obtain ⟨t2, a1, b1⟩ := kk w sh' M' ad' T'.heap (locs ++ L) q1 q2 q3 q4 q6 q7
    ⟨Nat.le_trans hS.1 (by rw [e1]; exact hz), fun q h1 h2 => by rw [e1, hk q (Nat.lt_of_lt_of_le h1 hS.1) (fun z => h2 (hA q z))]; exact hS.2.1 q h1 h2, fun q hq => by
      rcases List.mem_append.mp hq with h | h
      · exact hS.2.2 q h
      · exact hf _ (hL q h)⟩ (fun q h1 h2 => by rw [e1]; exact hk q h1 h2) T' rfl X'
  exact ⟨t2, st t2 a1, b1⟩
theorem lw_Dl {A : Nat → Prop} {w1 w2 : va_W} (h : va_D A (w1 ++ w2)) : va_D A w1 ∧ ∀ (i j : Nat) (p q : Nat × va_E), w1[i]? = some p → w2[j]? = some q → p.1 ≠ q.1 := by
  have ll : ∀ {i : Nat} {p : Nat × va_E}, w1[i]? = some p → (w1 ++ w2)[i]? = some p := fun {i p} hi => by
    rw [List.getElem?_append_left (List.getElem?_eq_some_iff.mp hi).1]; exact hi
  have lr : ∀ {j : Nat} {q : Nat × va_E}, w2[j]? = some q → (w1 ++ w2)[w1.length + j]? = some q := fun {j q} hj => by
    rw [List.getElem?_append_right (Nat.le_add_right _ _), Nat.add_sub_cancel_left]; exact hj
  refine ⟨⟨fun i j p q hi hj e => h.1 i j p q (ll hi) (ll hj) e, fun k q hk => h.2 k q (ll hk)⟩, fun i j p q hi hj e => ?_⟩
  have := h.1 i (w1.length + j) p q (ll hi) (lr hj) e
  have := (List.getElem?_eq_some_iff.mp hi).1
  omega
theorem lw_Dr {A : Nat → Prop} {w1 w2 : va_W} (h : va_D A (w1 ++ w2)) : va_D A w2 := by
  have lr : ∀ {j : Nat} {q : Nat × va_E}, w2[j]? = some q → (w1 ++ w2)[w1.length + j]? = some q := fun {j q} hj => by
    rw [List.getElem?_append_right (Nat.le_add_right _ _), Nat.add_sub_cancel_left]; exact hj
  refine ⟨fun i j p q hi hj e => ?_, fun k q hk => h.2 _ q (lr hk)⟩
  have := h.1 _ _ p q (lr hi) (lr hj) e
  omega
theorem lw_Ds {A : Nat → Prop} {w1 w2 : va_W} (h : va_D A (w1 ++ w2)) : va_D A (w2 ++ w1) :=
  (lw_Dr h).app (lw_Dl h).1 (fun i j p q hi hj e => (lw_Dl h).2 j i q p hj hi e.symm)
theorem lw_good {mj : mv_Mt} (h : Cond.code mj.1 mj.2.1 mj.2.2.1 mj.2.2.2.1 ∈ mv_tb) : GoodIn mv_tb (mv_wsk mj) := by
  intro w hw
  have : w ∈ mv_tb := by
    rcases List.mem_cons.mp hw with rfl | hw
    · exact h
    · exact hw
  exact ⟨this, good_of_word (List.mem_filter.mp this).2⟩
/-- what a call in one world leaves of the other -/
theorem lw_keep {H1 : Heap} {ws' : va_W} {A : Nat → Prop} (hP : va_P D mv_cl (mv_ws cy ad sh M) H) (hPr : va_P D mv_cl Wr H) (hD : va_D A (mv_ws cy ad sh M ++ Wr)) (hAA : ∀ q, va_A (mv_ws cy ad sh M) H.size q → A q) (hD' : va_D (va_A (mv_ws cy ad sh M) H.size) ws') (hk : ∀ q, q < H.size → ¬ va_A (mv_ws cy ad sh M) H.size q → H1[q]? = H[q]?) :
    va_P D mv_cl Wr H1 ∧ va_D A (ws' ++ Wr) := by
  obtain ⟨d1, d2⟩ := lw_Dl hD
  have out : ∀ (k : Nat) (q : Nat × va_E), Wr[k]? = some q → q.1 < H.size ∧ ¬ va_A (mv_ws cy ad sh M) H.size q.1 := by
    intro k q hq
    have lt := (hPr k q hq).lt
    refine ⟨lt, ?_⟩
    rintro (⟨i, ee, hi⟩ | h)
    · exact d2 i k _ q hi hq rfl
    · exact absurd lt (Nat.not_lt.mpr h)
  refine ⟨hPr.kept (fun k q hq => hk _ (out k q hq).1 (out k q hq).2), ?_⟩
  refine (hD'.weaken (fun k q _ h => hAA _ h)).app (lw_Dr hD) (fun i j p q hi hj e => ?_)
  exact (out j q hj).2 (e ▸ hD'.2 i p hi)
theorem lw_virt {bs : Nat} {ix : Nat} {ax : List Nat} {c1 s1 : Nat} {a' : List Value} {fs : List (Option Value)}
    (hx : p.tables.exec = Jvm.exec) (hb : c.code = code) (hml : c.maxLocals = 4) (hown : s.vm.findClass R_law = some m.cls) (htb : ∀ w ∈ mv_tb, w.before #[Value.ref bs] s = true)
    (hK : va_K D mv_cl (mv_tys cy) s) (hG : mv_G ad (lw_A s) s) (hg : mv_gca 216 R_law room_1 0 ix ax = true) (h0 : mv_x0 ax = 0)
    (hsh : sh[0]? = some (.inr (.inl (mv_x3 ax, fs)))) (hlen : a'.length + 1 = mv_x2 ax) (hSp : mv_S (mv_x1 ax) (.ref 0 :: a') sh M Q) (hw : mv_wf sh) (hva : mv_vs sh.length (.ref 0 :: a'))
    (hcat : (rest.map fun v => v.category).sum ≤ 8) (hP : va_P D mv_cl (mv_ws cy ad sh M) H) (hPr : va_P D mv_cl Wr H) (hD : va_D (lw_A s) (mv_ws cy ad sh M ++ Wr)) (hS : va_S (lw_A s) s.heap H locs) (hls : ls.size = 4)
    (hcs : c1 + mv_x4 ax ≤ 600000 ∧ s1 + mv_x5 ax ≤ 7302249) (hdg : decode code pc = .ok (.invokevirtual ix, 3))
    (kk : ∀ (v : Option Value) (sh' : mv_Shp) (M' : mv_Mem) (ad' : Nat → Nat) (H1 : Heap) (locs1 : List Loc), Q v sh' M' → (∀ k, k < sh.length ∨ 1000 ≤ k → ad' k = ad k) → sh.length ≤ sh'.length → mv_wf sh' → va_P D mv_cl (mv_ws cy ad' sh' M') H1 → va_P D mv_cl Wr H1 → va_D (lw_A s) (mv_ws cy ad' sh' M' ++ Wr) → va_S (lw_A s) s.heap H1 locs1 →
      W p l e room_1 s m #[Value.ref bs] below meth c H1 locs1 (c1 + mv_x4 ax) (s1 + mv_x5 ax) Qt (F0 m (pc + 3) ls ((v.map (mv_rv ad')).toList ++ rest))) :
    W p l e room_1 s m #[Value.ref bs] below meth c H locs c1 s1 Qt (F0 m pc ls ((a'.map (mv_rv ad)).reverse ++ .ref (ad 0) :: rest)) := by
  obtain ⟨mj, cj, hmj, hcj, ⟨hlt, hfr, hlo, hce, hsl⟩, hmh, hcw, hnest, hkind⟩ := mv_gca_out hg
  obtain ⟨h1, h2, h3⟩ : (0 : Nat) = 0 ∧ mv_pn mj = some (mv_x2 ax - 1) ∧ 0 < mv_x2 ax := by
    rcases hkind with ⟨z0, z1, z2, z3⟩ | ⟨z0, _⟩ | ⟨z0, _⟩ | ⟨z0, _⟩ | ⟨z0, _⟩ | ⟨z0, _⟩ | ⟨z0, _⟩ | ⟨z0, _⟩
    · exact ⟨z1, z2, z3⟩
    all_goals exact absurd (h0.symm.trans z0) (by decide)
  rw [h0] at hcw
  have hcode := hcw _ (List.mem_cons_of_mem _ (List.mem_cons_of_mem _ (List.mem_cons_of_mem _ (List.mem_cons_of_mem _ List.mem_cons_self))))
  have hM := uS216 (l := l) _ hlt mj hmj (.ref 0 :: a') sh M Q hSp hw hva D cy ad H.size
  have hD1 := (lw_Dl hD).1
  have hAA : ∀ q, va_A (mv_ws cy ad sh M) H.size q → lw_A s q := by
    rintro q (⟨kk, ee, hq⟩ | hq)
    · exact hD1.2 kk (q, ee) hq
    · exact Nat.le_trans hS.1 hq
  have hZ : ∀ {C n d : String} {v : Value} {U : State}, U.heap = H → s.WarmedH U.vm → va_Z C n d v (lw_A s) s s.heap → va_Z C n d v (va_A (mv_ws cy ad sh M) H.size) U U.heap := by
    intro C n d v U hU hW hz
    rw [hU]
    exact va_Z.narrow (va_Z.kept (va_Z.moved hW.alike hz) hS.2.1) hAA
  have hpre : ∀ U : State, U.heap = H → s.WarmedH U.vm → va_Pc ((.ref 0 :: a').map (mv_rv ad)) (mv_Pre D cy ad sh M H.size) ((.ref 0 :: a').map (mv_rv ad)).toArray U := by
    intro U hU hW
    refine ⟨rfl, by rw [hU], by rw [hU]; exact hP, va_K.moved hW.alike hK, hD1.weaken (fun _ _ _ _ => trivial), mv_nw_warm hW hG.1, hZ hU hW hG.2.1, hG.2.2.1.imp (hZ hU hW) (hZ hU hW), va_AO.moved hW.alike hG.2.2.2.1, vk_R.warm hW hG.2.2.2.2.1, ?_⟩
    rw [hU]
    exact vk_S.narrow (vk_S.kept (vk_S.moved hW.alike hG.2.2.2.2.2) hS.2.1) hAA
  have hfix : CallFix p m c code 4 s #[Value.ref bs] mv_tb R_law := ⟨hx, hb, hml, hown, htb⟩
  have hcs2 : c1 + mj.2.2.2.2.cells ≤ room_1.cells ∧ s1 + mj.2.2.2.2.slots ≤ room_1.slots := by rw [hce, hsl]; exact hcs
  refine mv_callR (va_runV (As := a'.map (mv_rv ad)) (rest := rest) hfix hM ⟨callB_of _ htb (lw_good hcode) rfl rfl rfl (htb _ (hcw _ (List.mem_cons_of_mem _ (List.mem_cons_of_mem _ (List.mem_cons_of_mem _ List.mem_cons_self))))) (htb _ (hcw _ List.mem_cons_self)) ⟨hmh.1, hmh.2, h2⟩ ⟨hfr, hlo⟩, htb _ (hcw _ (List.mem_cons_of_mem _ List.mem_cons_self)), htb _ (hcw _ (List.mem_cons_of_mem _ (List.mem_cons_of_mem _ List.mem_cons_self)))⟩ ⟨mv_pre_blind, va_recv hK hP hcj (mv_ws_at hsh), hpre⟩ rfl (by rw [List.length_map]; omega) hls rfl (lv_room hcat) hdg hcs2) hS hAA hAA ?_
  intro v sh' M' ad' H1 locs1 q1 q2 q3 q4 q5 q6 q7 q8
  obtain ⟨k1, k2⟩ := lw_keep hP hPr hD hAA q6 q8
  rw [hce, hsl]
  exact kk v sh' M' ad' H1 locs1 q1 q2 q3 q4 q5 k1 k2 q7
theorem lw_init {bs : Nat} {ix : Nat} {c1 s1 : Nat}
    (hx : p.tables.exec = Jvm.exec) (hb : c.code = code) (hml : c.maxLocals = 4) (hown : s.vm.findClass R_law = some m.cls) (htb : ∀ w ∈ mv_tb, w.before #[Value.ref bs] s = true)
    (hK : va_K D mv_cl (mv_tys cy) s) (hG : mv_G ad (lw_A s) s) {jj : Nat} {mj : mv_Mt} (hmj : mv_meth[jj]? = some mj) (hlt : jj < 216) (hfr : mj.2.2.2.2.frames + 1 ≤ room_1.frames) (hlo : 8 + (mj.2.2.1 + 11) + mj.2.2.2.2.locals ≤ room_1.locals) (hmh : mj.1.cls ≠ "java/lang/invoke/MethodHandle" ∧ mj.1.cls ≠ "java/lang/invoke/VarHandle")
    (hcw : Cond.methodLink R_law ix mj.1 ∈ mv_tb ∧ Cond.instanceMethod mj.1 ∈ mv_tb ∧ Cond.initialized mj.1.cls ∈ mv_tb) (hcode : Cond.code mj.1 mj.2.1 mj.2.2.1 mj.2.2.2.1 ∈ mv_tb) (h2 : mv_pn mj = some 0) (h4 : mj.1.name = "<init>") (h5 : mj.2.2.2.1 = none)
    (hSp : mv_S jj [.ref 0] sh M Q) (hw : mv_wf sh) (hva : mv_vs sh.length [.ref 0])
    (hcat : (rest.map fun v => v.category).sum ≤ 8) (hP : va_P D mv_cl (mv_ws cy ad sh M) H) (hPr : va_P D mv_cl Wr H) (hD : va_D (lw_A s) (mv_ws cy ad sh M ++ Wr)) (hS : va_S (lw_A s) s.heap H locs) (hls : ls.size = 4)
    (hcs2 : c1 + mj.2.2.2.2.cells ≤ room_1.cells ∧ s1 + mj.2.2.2.2.slots ≤ room_1.slots) (hdg : decode code pc = .ok (.invokespecial ix, 3))
    (kk : ∀ (v : Option Value) (sh' : mv_Shp) (M' : mv_Mem) (ad' : Nat → Nat) (H1 : Heap) (locs1 : List Loc), Q v sh' M' → (∀ k, k < sh.length ∨ 1000 ≤ k → ad' k = ad k) → sh.length ≤ sh'.length → mv_wf sh' → va_P D mv_cl (mv_ws cy ad' sh' M') H1 → va_P D mv_cl Wr H1 → va_D (lw_A s) (mv_ws cy ad' sh' M' ++ Wr) → va_S (lw_A s) s.heap H1 locs1 →
      W p l e room_1 s m #[Value.ref bs] below meth c H1 locs1 (c1 + mj.2.2.2.2.cells) (s1 + mj.2.2.2.2.slots) Qt (F0 m (pc + 3) ls ((v.map (mv_rv ad')).toList ++ rest))) :
    W p l e room_1 s m #[Value.ref bs] below meth c H locs c1 s1 Qt (F0 m pc ls (.ref (ad 0) :: rest)) := by
  have hM := uS216 (l := l) _ hlt mj hmj [.ref 0] sh M Q hSp hw hva D cy ad H.size
  have hD1 := (lw_Dl hD).1
  have hAA : ∀ q, va_A (mv_ws cy ad sh M) H.size q → lw_A s q := by
    rintro q (⟨kk, ee, hq⟩ | hq)
    · exact hD1.2 kk (q, ee) hq
    · exact Nat.le_trans hS.1 hq
  have hZ : ∀ {C n d : String} {v : Value} {U : State}, U.heap = H → s.WarmedH U.vm → va_Z C n d v (lw_A s) s s.heap → va_Z C n d v (va_A (mv_ws cy ad sh M) H.size) U U.heap := by
    intro C n d v U hU hW hz
    rw [hU]
    exact va_Z.narrow (va_Z.kept (va_Z.moved hW.alike hz) hS.2.1) hAA
  have hpre : ∀ U : State, U.heap = H → s.WarmedH U.vm → va_Pc (([.ref 0] : List Value).map (mv_rv ad)) (mv_Pre D cy ad sh M H.size) (([.ref 0] : List Value).map (mv_rv ad)).toArray U := by
    intro U hU hW
    refine ⟨rfl, by rw [hU], by rw [hU]; exact hP, va_K.moved hW.alike hK, hD1.weaken (fun _ _ _ _ => trivial), mv_nw_warm hW hG.1, hZ hU hW hG.2.1, hG.2.2.1.imp (hZ hU hW) (hZ hU hW), va_AO.moved hW.alike hG.2.2.2.1, vk_R.warm hW hG.2.2.2.2.1, ?_⟩
    rw [hU]
    exact vk_S.narrow (vk_S.kept (vk_S.moved hW.alike hG.2.2.2.2.2) hS.2.1) hAA
  have hfix : CallFix p m c code 4 s #[Value.ref bs] mv_tb R_law := ⟨hx, hb, hml, hown, htb⟩
  refine mv_callR (va_runI (As := []) (rest := rest) hfix hM ⟨callB_of (ws' := mv_tb) _ htb (lw_good hcode) (by unfold mv_wsk; rw [h5]) rfl rfl (htb _ hcw.2.2) (htb _ hcw.1) ⟨hmh.1, hmh.2, h2⟩ ⟨hfr, hlo⟩, h4, htb _ hcw.2.1⟩ ⟨mv_pre_blind, hpre⟩ rfl rfl hls rfl (lv_room hcat) hdg hcs2) hS hAA hAA ?_
  intro v sh' M' ad' H1 locs1 q1 q2 q3 q4 q5 q6 q7 q8
  obtain ⟨k1, k2⟩ := lw_keep hP hPr hD hAA q6 q8
  exact kk v sh' M' ad' H1 locs1 q1 q2 q3 q4 q5 k1 k2 q7
end LAWC
