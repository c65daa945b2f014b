/-! the law: one call compared -/
def lwv (xs : Nat → Int32) (i : Nat) : Nat → List Value
  | 0 => []
  | n + 1 => lwv xs i n ++ [.int (xs (i + (n + 1)))]
theorem lwv_len (xs : Nat → Int32) (i : Nat) : ∀ n, (lwv xs i n).length = n
  | 0 => rfl
  | n + 1 => by
    unfold lwv
    rw [List.length_append, lwv_len xs i n]
    rfl
theorem lwv_map (xs : Nat → Int32) (i : Nat) (ad : Nat → Nat) : ∀ n, (lwv xs i n).map (mv_rv ad) = lwv xs i n
  | 0 => rfl
  | n + 1 => by
    unfold lwv
    rw [List.map_append, lwv_map xs i ad n]
    rfl
theorem lwv_vs (xs : Nat → Int32) (i k : Nat) : ∀ n, mv_vs k (lwv xs i n)
  | 0 => trivial
  | n + 1 => mv_vs_app.mpr ⟨lwv_vs xs i k n, trivial, trivial⟩
theorem ofI : ∀ k : Fin 6, Int32.ofInt ((k.1 : Nat) : Int) = nI k.1 := by decide
theorem lw_mem1 {p q n : Nat} : ∀ {k : Nat}, k < n → ∀ x ∈ lwa (p + 5 * k) (k + 1), x ∈ lwas p n := by
  induction n with
  | zero => intro k h; exact absurd h (by omega)
  | succ n ih =>
    intro k hk x hx
    unfold lwas
    by_cases c : k = n
    · subst c; exact List.mem_append_right _ hx
    · exact List.mem_append_left _ (ih (by omega) x hx)
section LAWD
variable {p : Program} {l : Launch} {e : Env} {R : Room} {s : State} {m : MethodId} {args : Array Value} {below : List Frame} {meth : Method} {c : Code} {Qt : State → Prop}
variable {ls : Array Slot} {H : Heap} {locs : List Loc} {b L : Nat} {xs : Nat → Int32} {c1 s1 : Nat}
/-- the arguments of a call, out of the script -/
theorem lw_push {i qx qm : Nat} (hx : p.tables.exec = Jvm.exec) (hb : c.code = code) (hX : va_X b L xs s s.heap) (hbl : b < s.heap.size) (hS : va_S (lw_A s) s.heap H locs) (hL : L ≤ 320) (hl : lv_has ls 4 [(0, .ref b), (1, .ref qx), (2, .ref qm), (3, .int (nI i))]) :
    ∀ n pc (st : List Value), i + n < L → n ≤ 4 → mv_decs code (lwas pc n) → W p l e R s m args below meth c H locs c1 s1 Qt (F0 m (pc + 5 * n) ls ((lwv xs i n).reverse ++ st)) → W p l e R s m args below meth c H locs c1 s1 Qt (F0 m pc ls st)
  | 0, pc, st, _, _, _, k => k
  | n + 1, pc, st, h1, h2, hd, k => by
    have hbA : ¬ lw_A s b := Nat.not_le.mpr hbl
    refine lw_push hx hb hX hbl hS hL hl n pc st (by omega) (by omega) (fun q hq => hd q (List.mem_append_left _ hq)) ?_
    have dd : ∀ q ∈ lwa (pc + 5 * n) (n + 1), decode code q.1 = .ok (q.2.1, q.2.2.1) := fun q hq => hd q (List.mem_append_right _ hq)
    have d0 := dd (pc + 5 * n, .aload_n 0, 1, []) (List.mem_of_getElem? (i := 0) rfl)
    have d1 := dd (pc + 5 * n + 1, .iload_n 3, 1, []) (List.mem_of_getElem? (i := 1) rfl)
    have d2 := dd (pc + 5 * n + 2, .iconst ((n + 1 : Nat) : Int), 1, []) (List.mem_of_getElem? (i := 2) rfl)
    have d3 := dd (pc + 5 * n + 3, .iadd, 1, []) (List.mem_of_getElem? (i := 3) rfl)
    have d4 := dd (pc + 5 * n + 4, .iaload, 1, []) (List.mem_of_getElem? (i := 4) rfl)
    refine lv_aload_n hx hb d0 rfl (lv_at hl 0 rfl) ?_
    refine lv_iload_n hx hb d1 rfl (lv_at hl 3 rfl) ?_
    refine lv_iconst (v := nI (n + 1)) hx hb d2 (ofI ⟨n + 1, by omega⟩) ?_
    refine lv_iadd hx hb d3 ?_
    rw [q_add]
    refine va_sld hx hb hX hbl hbA hS (vp_in_nI (by omega) (by omega)) d4 ?_
    rw [q_cl (by omega)]
    have er : (lwv xs i (n + 1)).reverse ++ st = .int (xs (i + (n + 1))) :: ((lwv xs i n).reverse ++ st) := by
      have eu : lwv xs i (n + 1) = lwv xs i n ++ [.int (xs (i + (n + 1)))] := rfl
      rw [eu, List.reverse_append]
      rfl
    rw [er] at k
    exact k
theorem mv_G_cg {a0 ad : Nat → Nat} {A : Nat → Prop} {U : State} (h : mv_G a0 A U) (e : ∀ j, 1000 ≤ j → ad j = a0 j) : mv_G ad A U := by
  unfold mv_G
  rw [e 1000 (by decide), e 1001 (by decide), e 2000 (by decide)]
  exact h
/-- the two worlds behind k calls -/
def lwI (s : State) (D : va_G) (cy : Nat → ClassId) (a0 ax an : Nat → Nat) (sx sn : mv_Shp) (X N : mv_Mem) (k : Nat) (H : Heap) (locs : List Loc) (c1 s1 : Nat) : Prop :=
  va_P D mv_cl (mv_ws cy ax sx X) H ∧ va_P D mv_cl (mv_ws cy an sn N) H ∧ va_D (lw_A s) (mv_ws cy ax sx X ++ mv_ws cy an sn N) ∧ va_S (lw_A s) s.heap H locs ∧ oX sx ∧ oM sn ∧ mv_wf sx ∧ mv_wf sn ∧ RR k X N ∧ (∀ j, 1000 ≤ j → ax j = a0 j) ∧ (∀ j, 1000 ≤ j → an j = a0 j) ∧ c1 ≤ 87 + k ∧ s1 ≤ 61041 + 96 * k
theorem lw_case {n pc0 ixc ixm kc km i k : Nat} {off : Int} {axc axm : List Nat} {D : va_G} {cy : Nat → ClassId} {a0 ax an : Nat → Nat} {sx sn : mv_Shp} {X N : mv_Mem}
    (hd : mv_decs code (lwc pc0 n ixc ixm off)) (ho : ((pc0 + 8 + 10 * n : Nat) : Int) + off = ((926 : Nat) : Int)) (hg : mv_gca 216 R_law room_1 0 ixc axc = true ∧ mv_gca 216 R_law room_1 0 ixm axm = true)
    (zc : mv_x0 axc = 0 ∧ mv_x1 axc = kc ∧ mv_x2 axc = n + 1 ∧ mv_x3 axc = 4 ∧ mv_x4 axc ≤ 1 ∧ mv_x5 axc ≤ 96) (zm : mv_x0 axm = 0 ∧ mv_x1 axm = km ∧ mv_x2 axm = n + 1 ∧ mv_x3 axm = 5 ∧ mv_x4 axm = 0 ∧ mv_x5 axm = 0)
    (ht : twn kc km (.ref 0 :: lwv xs i n)) (hn : n ≤ 4) (hi : i + 5 ≤ L) (hL : L ≤ 320) (hk : k < 64)
    (hx : p.tables.exec = Jvm.exec) (hb : c.code = code) (hml : c.maxLocals = 4) (hown : s.vm.findClass R_law = some m.cls) (htb : ∀ w ∈ mv_tb, w.before #[Value.ref b] s = true) (hX : va_X b L xs s s.heap) (hbl : b < s.heap.size)
    (hK : va_K D mv_cl (mv_tys cy) s) (hG : mv_G a0 (lw_A s) s)
    (inv : lwI s D cy a0 ax an sx sn X N k H locs c1 s1) (hl : lv_has ls 4 [(0, .ref b), (1, .ref (ax 0)), (2, .ref (an 0)), (3, .int (nI i))])
    (kk : ∀ (X' N' : mv_Mem) (H1 : Heap) (locs1 : List Loc) (c2 s2 : Nat), lwI s D cy a0 ax an sx sn X' N' (k + 1) H1 locs1 c2 s2 → W p l e room_1 s m #[Value.ref b] below meth c H1 locs1 c2 s2 Qt (F0 m 926 ls [])) :
    W p l e room_1 s m #[Value.ref b] below meth c H locs c1 s1 Qt (F0 m pc0 ls []) := by
  obtain ⟨hPx, hPn, hD, hS, ox, om, wx, wn, hR, ex, en, hc, hs⟩ := inv
  obtain ⟨v, X', B, t1, t2, t3⟩ := ht k sx sn X N hk ox om hR
  obtain ⟨c0, c1', c2', c3, c4, c5⟩ := zc
  obtain ⟨m0, m1, m2, m3, m4, m5⟩ := zm
  have hd1 : ∀ q ∈ lwh pc0 1 n ixc, decode code q.1 = .ok (q.2.1, q.2.2.1) := fun q hq => hd q (List.mem_append_left _ hq)
  have hd2 : ∀ q ∈ lwh (pc0 + 4 + 5 * n) 2 n ixm, decode code q.1 = .ok (q.2.1, q.2.2.1) := fun q hq => hd q (List.mem_append_right _ (List.mem_append_left _ hq))
  have hd3 : decode code (pc0 + 8 + 10 * n) = .ok (.if_icmp .eq off, 3) := hd (pc0 + 8 + 10 * n, .if_icmp .eq off, 3, []) (List.mem_append_right _ (List.mem_append_right _ List.mem_cons_self))
  obtain ⟨fx, hsx⟩ : ∃ fs, sx[0]? = some (.inr (.inl (4, fs))) := ⟨_, ox.1⟩
  obtain ⟨fn, hsn⟩ : ∃ fs, sn[0]? = some (.inr (.inl (5, fs))) := ⟨_, om.1⟩
  have lx : 0 < sx.length := (List.getElem?_eq_some_iff.mp hsx).1
  have ln : 0 < sn.length := (List.getElem?_eq_some_iff.mp hsn).1
  -- the class's call
  refine lv_aload_n hx hb (hd1 (pc0, .aload_n 1, 1, []) List.mem_cons_self) rfl (lv_at hl 1 rfl) ?_
  refine lw_push hx hb hX hbl hS hL hl n (pc0 + 1) _ (by omega) hn (fun q hq => hd1 q (List.mem_cons_of_mem _ (List.mem_append_left _ hq))) ?_
  have e1 := lw_virt (Qt := Qt) (ls := ls) (pc := pc0 + 1 + 5 * n) (rest := []) (bs := b) (ix := ixc) (ax := axc) (c1 := c1) (s1 := s1) (a' := lwv xs i n) (Q := fun r sh' M' => r = some (.int v) ∧ sh' = sx ∧ M' = X') (Wr := mv_ws cy an sn N) (below := below) (meth := meth) (l := l) (e := e)
    hx hb hml hown htb hK (mv_G_cg hG ex) hg.1 c0 (by rw [c3]; exact hsx) (by rw [lwv_len, c2']) (by rw [c1']; exact t1 _ ⟨rfl, rfl, rfl⟩) wx ⟨Or.inl lx, lwv_vs _ _ _ _⟩ (by decide) hPx hPn hD hS hl.1 ⟨by omega, by omega⟩
    (hd1 (pc0 + 1 + 5 * n, .invokevirtual ixc, 3, []) (List.mem_cons_of_mem _ (List.mem_append_right _ List.mem_cons_self))) ?_
  · rw [lwv_map] at e1
    exact e1
  rintro r sh' M' ad' H1 locs1 ⟨er, es, em⟩ q2 q3 q4 q5 q6 q7 q8
  cases er
  rw [es, em] at q5 q7
  have ew : mv_ws cy ad' sx X' = mv_ws cy ax sx X' := mv_ws_eq wx q2
  rw [ew] at q5 q7
  show W p l e room_1 s m #[Value.ref b] below meth c H1 locs1 (c1 + mv_x4 axc) (s1 + mv_x5 axc) Qt (F0 m (pc0 + 1 + 5 * n + 3) ls [.int v])
  rw [show pc0 + 1 + 5 * n + 3 = pc0 + 4 + 5 * n by omega]
  -- the model's call
  refine lv_aload_n hx hb (hd2 (pc0 + 4 + 5 * n, .aload_n 2, 1, []) List.mem_cons_self) rfl (lv_at hl 2 rfl) ?_
  refine lw_push hx hb hX hbl q8 hL hl n (pc0 + 4 + 5 * n + 1) _ (by omega) hn (fun q hq => hd2 q (List.mem_cons_of_mem _ (List.mem_append_left _ hq))) ?_
  have e2 := lw_virt (Qt := Qt) (ls := ls) (pc := pc0 + 4 + 5 * n + 1 + 5 * n) (rest := [.int v]) (bs := b) (ix := ixm) (ax := axm) (c1 := c1 + mv_x4 axc) (s1 := s1 + mv_x5 axc) (a' := lwv xs i n) (Q := fun r sh' M' => r = some (.int v) ∧ sh' = sn ∧ B M') (Wr := mv_ws cy ax sx X') (below := below) (meth := meth) (l := l) (e := e)
    hx hb hml hown htb hK (mv_G_cg hG en) hg.2 m0 (by rw [m3]; exact hsn) (by rw [lwv_len, m2]) (by rw [m1]; exact t2 _ (fun N' hN => ⟨rfl, rfl, hN⟩)) wn ⟨Or.inl ln, lwv_vs _ _ _ _⟩ (Nat.le_of_ble_eq_true rfl) q6 q5 (lw_Ds q7) q8 hl.1 ⟨by omega, by omega⟩
    (hd2 (pc0 + 4 + 5 * n + 1 + 5 * n, .invokevirtual ixm, 3, []) (List.mem_cons_of_mem _ (List.mem_append_right _ List.mem_cons_self))) ?_
  · rw [lwv_map] at e2
    exact e2
  rintro r sh' M' ad2 H2 locs2 ⟨er, es, hB⟩ r2 r3 r4 r5 r6 r7 r8
  cases er
  rw [es] at r5 r7
  have ew2 : mv_ws cy ad2 sn M' = mv_ws cy an sn M' := mv_ws_eq wn r2
  rw [ew2] at r5 r7
  show W p l e room_1 s m #[Value.ref b] below meth c H2 locs2 (c1 + mv_x4 axc + mv_x4 axm) (s1 + mv_x5 axc + mv_x5 axm) Qt (F0 m (pc0 + 4 + 5 * n + 1 + 5 * n + 3) ls [.int v, .int v])
  rw [show pc0 + 4 + 5 * n + 1 + 5 * n + 3 = pc0 + 8 + 10 * n by omega]
  refine lv_icmp_eq (tgt := 926) hx hb hd3 ho (fun _ => ?_) (fun z => absurd rfl z)
  exact kk X' M' H2 locs2 _ _ ⟨r6, r5, lw_Ds r7, r8, ox, om, wx, wn, t3 M' hB, ex, en, by omega, by omega⟩
end LAWD
