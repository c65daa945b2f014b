/-! the soundness of the steps, one instruction after the other -/
section CORE
variable {p : Program} {l : Launch} {e : Env} {s : State} {m : MethodId} {args : Array Value} {below : List Frame} {meth : Method} {c : Code}
set_option maxHeartbeats 8000000 in
set_option maxRecDepth 100000 in
theorem mv_core {k : Nat} {mt : mv_Mt} {cd : mv_Cd} {S : Nat → mv_Sp} {P : mv_Post} {D : va_G} {cy : Nat → ClassId} {ad0 : Nat → Nat} {sh0 : mv_Shp} {A : Nat → Prop} {R : Jvm.Room}
    (hx : p.tables.exec = Jvm.exec) (hb : c.code = mt.2.1) (hr : meth.sig.returnType = mt.2.2.2.1) (hml : c.maxLocals = mt.2.2.1) (hown : s.vm.findClass mt.1.cls = some m.cls) (hts : ∀ w ∈ mv_wsk mt, w.before args s = true) (hlocks : meth.locks = false) (hnm : meth.name = mt.1.name) (hRe : R = mt.2.2.2.2)
    (hcd : cd.all (mv_good k mt) = true) (hdec : mv_decs mt.2.1 cd) (hSo : ∀ j, j < k → mv_Ok l j (S j)) (hK : va_K D mv_cl (mv_tys cy) s) (hG : mv_G ad0 A s) (hA : ∀ q, s.heap.size ≤ q → A q)
    {pc : Nat} {L : mv_Loc} {st : List Value} {sh : mv_Shp} {M : mv_Mem} {c1 s1 : Nat} (h : mv_R mv_DF cd S (R.cells, R.slots) P pc L st sh M c1 s1) : mv_X p l e s m args below meth c R mt.2.2.1 D cy ad0 sh0 A P pc L st sh M c1 s1 := by
  refine mv_R_ind (mv_X p l e s m args below meth c R mt.2.2.1 D cy ad0 sh0 A P) ?_ h
  clear h
  intro K i len ax pc L st sh M c1 s1 hKX hf hk ad H locs ls hP hD hS hw hn ha hl hv hc1 hs1
  have hmem := mv_f_mem hf
  have hdg : decode mt.2.1 pc = .ok (i, len) := hdec (pc, i, len, ax) hmem
  have hg0 : mv_good k mt (pc, i, len, ax) = true := List.all_eq_true.mp hcd (pc, i, len, ax) hmem
  obtain ⟨hln, hg⟩ : mv_lnb i len = true ∧ mv_gi k mt pc i ax = true := by
    unfold mv_good at hg0
    rw [Bool.and_eq_true] at hg0
    exact hg0
  clear hg0 hf hmem
  have htb : ∀ w ∈ mv_tb, w.before args s = true := fun w hw => hts w (List.mem_cons_of_mem _ hw)
  have go : ∀ {pc' : Nat} {L' : mv_Loc} {st' : List Value} {ls' : Array Slot}, K pc' L' st' sh M c1 s1 → mv_lk ad sh.length ls' L' mt.2.2.1 → mv_vs sh.length st' → W p l e R s m args below meth c H locs c1 s1 (MQ below (mv_Qc D cy ad0 sh0 A P) args s R.cells R.slots A) (F0 m pc' ls' (st'.map (mv_rv ad))) :=
    fun hk hl hv => hKX _ _ _ _ _ _ _ hk ad H locs _ hP hD hS hw hn ha hl hv hc1 hs1
  -- a step that changes numbers at the place a
  have goM : ∀ {pc' : Nat} {st' : List Value} {a : Nat} {e0 : mv_Sh1} {g : Nat → Int32} {H1 : Heap} {locs1 : List Loc}, K pc' L st' sh (mv_wr M a g) c1 s1 → sh[a]? = some e0 → mv_vs sh.length st' →
      va_P D mv_cl ((mv_ws cy ad sh M).set a (ad a, mv_cell cy ad g e0)) H1 → va_D A ((mv_ws cy ad sh M).set a (ad a, mv_cell cy ad g e0)) → va_S A s.heap H1 locs1 →
      W p l e R s m args below meth c H1 locs1 c1 s1 (MQ below (mv_Qc D cy ad0 sh0 A P) args s R.cells R.slots A) (F0 m pc' ls (st'.map (mv_rv ad))) := by
    intro pc' st' a e0 g H1 locs1 hk he hv hP1 hD1 hS1
    rw [mv_ws_wr he] at hP1 hD1
    exact hKX _ _ _ _ _ _ _ hk ad H1 locs1 ls hP1 hD1 hS1 hw hn ha hl hv hc1 hs1
  -- the answer
  have fin : ∀ (t : State) (v : Option Value), t.heap = H → P v sh M → (∀ x, v = some x → mv_vd sh.length x) → mv_Qc D cy ad0 sh0 A P args s (.returned (v.map (mv_rv ad))) t := by
    intro t v ht hp hvd
    exact ⟨⟨v, sh, M, ad, hp, rfl, ha, hn, hw, hvd, by rw [ht]; exact hP, hD⟩, hS.F ht⟩
  cases i with
  | iload_n x =>
    obtain rfl : len = 1 := eq_of_beq (show (len == 1) = true from hln)
    obtain ⟨v, h1, h2⟩ := (mv_ldI_iff L x).mp hk
    have hva := hl.2.2.2 _ _ h1
    exact lv_iload_n hx hb hdg rfl hva.2 (go h2 hl ⟨trivial, hv⟩)
  | iload x =>
    obtain rfl : len = 2 := eq_of_beq (show (len == 2) = true from hln)
    obtain ⟨v, h1, h2⟩ := (mv_ldI_iff L x).mp hk
    have hva := hl.2.2.2 _ _ h1
    exact lv_iload hx hb hdg hva.2 (go h2 hl ⟨trivial, hv⟩)
  | aload_n x =>
    obtain rfl : len = 1 := eq_of_beq (show (len == 1) = true from hln)
    obtain ⟨v, h1, h2⟩ := (mv_ldA_iff L x).mp hk
    have hva := hl.2.2.2 _ _ h1
    exact lv_aload_n hx hb hdg rfl hva.2 (go h2 hl ⟨hva.1, hv⟩)
  | aload x =>
    obtain rfl : len = 2 := eq_of_beq (show (len == 2) = true from hln)
    obtain ⟨v, h1, h2⟩ := (mv_ldA_iff L x).mp hk
    have hva := hl.2.2.2 _ _ h1
    exact lv_aload hx hb hdg hva.2 (go h2 hl ⟨hva.1, hv⟩)
  | lload_n x =>
    obtain rfl : len = 1 := eq_of_beq (show (len == 1) = true from hln)
    obtain ⟨v, h1, h2⟩ := (mv_ldL_iff L x).mp hk
    have hva := hl.2.2.2 _ _ h1
    exact lv_lload_n hx hb hdg rfl hva.2 (go h2 hl ⟨trivial, hv⟩)
  | lload x =>
    obtain rfl : len = 2 := eq_of_beq (show (len == 2) = true from hln)
    obtain ⟨v, h1, h2⟩ := (mv_ldL_iff L x).mp hk
    have hva := hl.2.2.2 _ _ h1
    exact lv_lload hx hb hdg hva.2 (go h2 hl ⟨trivial, hv⟩)
  | istore_n x =>
    obtain rfl : len = 1 := eq_of_beq (show (len == 1) = true from hln)
    obtain ⟨v, r, rfl, h2⟩ := mv_pI_iff.mp hk
    obtain ⟨⟨h3, h4⟩, h5⟩ := (mv_stA_iff L x).mp h2
    refine lv_istore_n hx hb hdg rfl hl.has (by rw [← hl.2.1]; exact h3) rfl (fun ls2 h6 => ?_)
    exact go h5 (hl.st trivial h3 h4 h6) hv.2
  | istore x =>
    obtain rfl : len = 2 := eq_of_beq (show (len == 2) = true from hln)
    obtain ⟨v, r, rfl, h2⟩ := mv_pI_iff.mp hk
    obtain ⟨⟨h3, h4⟩, h5⟩ := (mv_stA_iff L x).mp h2
    refine lv_istore hx hb hdg hl.has (by rw [← hl.2.1]; exact h3) rfl (fun ls2 h6 => ?_)
    exact go h5 (hl.st trivial h3 h4 h6) hv.2
  | astore_n x =>
    obtain rfl : len = 1 := eq_of_beq (show (len == 1) = true from hln)
    obtain ⟨v, r, rfl, h2⟩ := mv_pA_iff.mp hk
    obtain ⟨⟨h3, h4⟩, h5⟩ := (mv_stA_iff L x).mp h2
    refine lv_astore_n hx hb hdg rfl hl.has (by rw [← hl.2.1]; exact h3) rfl (fun ls2 h6 => ?_)
    exact go h5 (hl.st hv.1 h3 h4 h6) hv.2
  | astore x =>
    obtain rfl : len = 2 := eq_of_beq (show (len == 2) = true from hln)
    obtain ⟨v, r, rfl, h2⟩ := mv_pA_iff.mp hk
    obtain ⟨⟨h3, h4⟩, h5⟩ := (mv_stA_iff L x).mp h2
    refine lv_astore hx hb hdg hl.has (by rw [← hl.2.1]; exact h3) rfl (fun ls2 h6 => ?_)
    exact go h5 (hl.st hv.1 h3 h4 h6) hv.2
  | lstore_n x =>
    obtain rfl : len = 1 := eq_of_beq (show (len == 1) = true from hln)
    obtain ⟨v, r, rfl, h2⟩ := mv_pL_iff.mp hk
    obtain ⟨⟨h3, h4⟩, h5⟩ := (mv_stL_iff L x).mp h2
    refine lv_lstore_n hx hb hdg rfl hl.has (by rw [← hl.2.1]; exact h3) rfl (fun ls2 h6 => ?_)
    exact go h5 (hl.stl h3 h4 h6) hv.2
  | lstore x =>
    obtain rfl : len = 2 := eq_of_beq (show (len == 2) = true from hln)
    obtain ⟨v, r, rfl, h2⟩ := mv_pL_iff.mp hk
    obtain ⟨⟨h3, h4⟩, h5⟩ := (mv_stL_iff L x).mp h2
    refine lv_lstore hx hb hdg hl.has (by rw [← hl.2.1]; exact h3) rfl (fun ls2 h6 => ?_)
    exact go h5 (hl.stl h3 h4 h6) hv.2
  | iinc x n =>
    obtain rfl : len = 3 := eq_of_beq (show (len == 3) = true from hln)
    obtain ⟨v, h1, h2⟩ := (mv_ldI_iff L x).mp hk
    obtain ⟨⟨h3, h4⟩, h5⟩ := (mv_stA_iff L x).mp h2
    obtain ⟨kk, hkk⟩ := List.getElem?_of_mem (mv_al_mem (ad := ad).mpr ⟨_, h1, rfl⟩)
    refine lv_iinc hx hb hdg hl.has (k := kk) hkk rfl (by rw [← hl.2.1]; exact h3) rfl (fun ls2 h6 => ?_)
    exact go h5 (hl.st (v := .int _) trivial h3 h4 h6) hv
  | iconst n =>
    obtain rfl : len = 1 := eq_of_beq (show (len == 1) = true from hln)
    exact lv_iconst hx hb hdg rfl (go hk hl ⟨trivial, hv⟩)
  | bipush n =>
    obtain rfl : len = 2 := eq_of_beq (show (len == 2) = true from hln)
    exact lv_bipush hx hb hdg rfl (go hk hl ⟨trivial, hv⟩)
  | sipush n =>
    obtain rfl : len = 3 := eq_of_beq (show (len == 3) = true from hln)
    exact lv_sipush hx hb hdg rfl (go hk hl ⟨trivial, hv⟩)
  | lconst n =>
    obtain rfl : len = 1 := eq_of_beq (show (len == 1) = true from hln)
    exact lv_lconst hx hb hdg rfl (go hk hl ⟨trivial, hv⟩)
  | ldc ix =>
    obtain rfl : len = 2 := eq_of_beq (show (len == 2) = true from hln)
    have hg2 : (if mv_x2 ax = 0 then mv_chk [.constant mt.1.cls ix (Int32.ofNat (mv_x1 ax))] [mv_x0 ax] else decide (mt.1.cls = "TurnedTablets" ∧ ix = 60)) = true := hg
    have hk2 : K (pc + 2) L ((if mv_x2 ax = 0 then .int (Int32.ofNat (mv_x1 ax)) else .ref 1000) :: st) sh M c1 s1 := hk
    by_cases q : mv_x2 ax = 0
    · rw [if_pos q] at hg2 hk2
      exact lv_ldc hx hb hown (htb _ (mv_chk_in hg2 _ List.mem_cons_self)) hdg (go hk2 hl ⟨trivial, hv⟩)
    · rw [if_neg q] at hg2 hk2
      obtain ⟨h1, rfl⟩ := of_decide_eq_true hg2
      have h9 : mv_rv ad (.ref 1000) = .ref (ad0 1000) := congrArg Value.ref (ha _ (Or.inr (by decide)))
      have h8 := go hk2 hl ⟨Or.inr (by decide), hv⟩
      rw [List.map_cons, h9] at h8
      rw [h1] at hown
      exact va_ldcS hx hb hown hG.2.2.2.2.1 hdg h8
  | ldc_w ix =>
    obtain rfl : len = 3 := eq_of_beq (show (len == 3) = true from hln)
    exact lv_ldcw hx hb hown (htb _ (mv_chk_in hg _ List.mem_cons_self)) hdg (go hk hl ⟨trivial, hv⟩)
  | ifnonnull off =>
    obtain rfl : len = 3 := eq_of_beq (show (len == 3) = true from hln)
    obtain ⟨a, r, rfl, h2⟩ := mv_pA_iff.mp hk
    exact lv_ifnonnull hx hb hdg (mv_tgt_out hg) (go h2 hl hv.2)
  | ldc2_w ix =>
    obtain rfl : len = 3 := eq_of_beq (show (len == 3) = true from hln)
    exact lv_ldc2 hx hb hown (htb _ (mv_chk_in hg _ List.mem_cons_self)) hdg (go hk hl ⟨trivial, hv⟩)
  | getstatic ix =>
    obtain rfl : len = 3 := eq_of_beq (show (len == 3) = true from hln)
    rcases ax with _ | ⟨w, _ | ⟨v, _ | ⟨z, t⟩⟩⟩
    · exact hk.elim
    · exact hk.elim
    · rcases v with _ | _ | v
      · exact va_gets hx hb hG.2.1 hS hown (htb _ (mv_chk_in hg _ List.mem_cons_self)) (fun _ z => z) hdg (go hk hl ⟨trivial, hv⟩)
      · have h9 : mv_rv ad (.ref 2000) = .ref (ad0 2000) := congrArg Value.ref (ha _ (Or.inr (by decide)))
        rcases hG.2.2.1 with hz | hz
        · have h8 := go hk.2 hl ⟨Or.inr (by decide), hv⟩
          rw [List.map_cons, h9] at h8
          exact va_gets hx hb hz hS hown (htb _ (mv_chk_in hg _ List.mem_cons_self)) (fun _ z => z) hdg h8
        · exact va_gets hx hb hz hS hown (htb _ (mv_chk_in hg _ List.mem_cons_self)) (fun _ z => z) hdg (go hk.1 hl ⟨trivial, hv⟩)
      · exact hk.elim
    · rcases v with _ | _ | v <;> exact hk.elim
  | iadd =>
    obtain rfl : len = 1 := eq_of_beq (show (len == 1) = true from hln)
    obtain ⟨y, r, rfl, h2⟩ := mv_pI_iff.mp hk
    obtain ⟨x, r, rfl, h3⟩ := mv_pI_iff.mp h2
    exact lv_iadd hx hb hdg (go h3 hl ⟨trivial, hv.2.2⟩)
  | isub =>
    obtain rfl : len = 1 := eq_of_beq (show (len == 1) = true from hln)
    obtain ⟨y, r, rfl, h2⟩ := mv_pI_iff.mp hk
    obtain ⟨x, r, rfl, h3⟩ := mv_pI_iff.mp h2
    exact lv_isub hx hb hdg (go h3 hl ⟨trivial, hv.2.2⟩)
  | imul =>
    obtain rfl : len = 1 := eq_of_beq (show (len == 1) = true from hln)
    obtain ⟨y, r, rfl, h2⟩ := mv_pI_iff.mp hk
    obtain ⟨x, r, rfl, h3⟩ := mv_pI_iff.mp h2
    exact lv_imul hx hb hdg (go h3 hl ⟨trivial, hv.2.2⟩)
  | iand =>
    obtain rfl : len = 1 := eq_of_beq (show (len == 1) = true from hln)
    obtain ⟨y, r, rfl, h2⟩ := mv_pI_iff.mp hk
    obtain ⟨x, r, rfl, h3⟩ := mv_pI_iff.mp h2
    exact lv_iand hx hb hdg (go h3 hl ⟨trivial, hv.2.2⟩)
  | ior =>
    obtain rfl : len = 1 := eq_of_beq (show (len == 1) = true from hln)
    obtain ⟨y, r, rfl, h2⟩ := mv_pI_iff.mp hk
    obtain ⟨x, r, rfl, h3⟩ := mv_pI_iff.mp h2
    exact lv_ior hx hb hdg (go h3 hl ⟨trivial, hv.2.2⟩)
  | ixor =>
    obtain rfl : len = 1 := eq_of_beq (show (len == 1) = true from hln)
    obtain ⟨y, r, rfl, h2⟩ := mv_pI_iff.mp hk
    obtain ⟨x, r, rfl, h3⟩ := mv_pI_iff.mp h2
    exact lv_ixor hx hb hdg (go h3 hl ⟨trivial, hv.2.2⟩)
  | ishl =>
    obtain rfl : len = 1 := eq_of_beq (show (len == 1) = true from hln)
    obtain ⟨y, r, rfl, h2⟩ := mv_pI_iff.mp hk
    obtain ⟨x, r, rfl, h3⟩ := mv_pI_iff.mp h2
    exact lv_ishl hx hb hdg (go h3 hl ⟨trivial, hv.2.2⟩)
  | ishr =>
    obtain rfl : len = 1 := eq_of_beq (show (len == 1) = true from hln)
    obtain ⟨y, r, rfl, h2⟩ := mv_pI_iff.mp hk
    obtain ⟨x, r, rfl, h3⟩ := mv_pI_iff.mp h2
    exact lv_ishr hx hb hdg (go h3 hl ⟨trivial, hv.2.2⟩)
  | iushr =>
    obtain rfl : len = 1 := eq_of_beq (show (len == 1) = true from hln)
    obtain ⟨y, r, rfl, h2⟩ := mv_pI_iff.mp hk
    obtain ⟨x, r, rfl, h3⟩ := mv_pI_iff.mp h2
    exact lv_iushr hx hb hdg rfl (go h3 hl ⟨trivial, hv.2.2⟩)
  | idiv =>
    obtain rfl : len = 1 := eq_of_beq (show (len == 1) = true from hln)
    obtain ⟨y, r, rfl, h2⟩ := mv_pI_iff.mp hk
    obtain ⟨x, r, rfl, h3⟩ := mv_pI_iff.mp h2
    exact lv_idiv hx hb hdg h3.1 (go h3.2 hl ⟨trivial, hv.2.2⟩)
  | irem =>
    obtain rfl : len = 1 := eq_of_beq (show (len == 1) = true from hln)
    obtain ⟨y, r, rfl, h2⟩ := mv_pI_iff.mp hk
    obtain ⟨x, r, rfl, h3⟩ := mv_pI_iff.mp h2
    exact lv_irem hx hb hdg h3.1 (go h3.2 hl ⟨trivial, hv.2.2⟩)
  | ineg =>
    obtain rfl : len = 1 := eq_of_beq (show (len == 1) = true from hln)
    obtain ⟨y, r, rfl, h2⟩ := mv_pI_iff.mp hk
    exact lv_ineg hx hb hdg (go h2 hl ⟨trivial, hv.2⟩)
  | i2l =>
    obtain rfl : len = 1 := eq_of_beq (show (len == 1) = true from hln)
    obtain ⟨y, r, rfl, h2⟩ := mv_pI_iff.mp hk
    exact lv_i2l hx hb hdg rfl (go h2 hl ⟨trivial, hv.2⟩)
  | i2b =>
    obtain rfl : len = 1 := eq_of_beq (show (len == 1) = true from hln)
    obtain ⟨y, r, rfl, h2⟩ := mv_pI_iff.mp hk
    exact lv_i2b hx hb hdg rfl (go h2 hl ⟨trivial, hv.2⟩)
  | i2c =>
    obtain rfl : len = 1 := eq_of_beq (show (len == 1) = true from hln)
    obtain ⟨y, r, rfl, h2⟩ := mv_pI_iff.mp hk
    exact lv_i2c hx hb hdg rfl (go h2 hl ⟨trivial, hv.2⟩)
  | l2i =>
    obtain rfl : len = 1 := eq_of_beq (show (len == 1) = true from hln)
    obtain ⟨y, r, rfl, h2⟩ := mv_pL_iff.mp hk
    exact lv_l2i hx hb hdg rfl (go h2 hl ⟨trivial, hv.2⟩)
  | ladd =>
    obtain rfl : len = 1 := eq_of_beq (show (len == 1) = true from hln)
    obtain ⟨y, r, rfl, h2⟩ := mv_pL_iff.mp hk
    obtain ⟨x, r, rfl, h3⟩ := mv_pL_iff.mp h2
    exact lv_ladd hx hb hdg (go h3 hl ⟨trivial, hv.2.2⟩)
  | lmul =>
    obtain rfl : len = 1 := eq_of_beq (show (len == 1) = true from hln)
    obtain ⟨y, r, rfl, h2⟩ := mv_pL_iff.mp hk
    obtain ⟨x, r, rfl, h3⟩ := mv_pL_iff.mp h2
    exact lv_lmul hx hb hdg (go h3 hl ⟨trivial, hv.2.2⟩)
  | lrem =>
    obtain rfl : len = 1 := eq_of_beq (show (len == 1) = true from hln)
    obtain ⟨y, r, rfl, h2⟩ := mv_pL_iff.mp hk
    obtain ⟨x, r, rfl, h3⟩ := mv_pL_iff.mp h2
    exact lv_lrem hx hb hdg h3.1 (go h3.2 hl ⟨trivial, hv.2.2⟩)
  | lcmp =>
    obtain rfl : len = 1 := eq_of_beq (show (len == 1) = true from hln)
    obtain ⟨y, r, rfl, h2⟩ := mv_pL_iff.mp hk
    obtain ⟨x, r, rfl, h3⟩ := mv_pL_iff.mp h2
    exact W.lcmp hx hb hdg (go h3 hl ⟨trivial, hv.2.2⟩)
  | if_icmp cc off =>
    obtain rfl : len = 3 := eq_of_beq (show (len == 3) = true from hln)
    cases cc <;> (obtain ⟨y, r, rfl, h2⟩ := mv_pI_iff.mp hk; obtain ⟨x, r, rfl, h3⟩ := mv_pI_iff.mp h2)
    · exact lv_icmp_eq hx hb hdg (mv_tgt_out hg) (fun q => go (h3.1 q) hl hv.2.2) (fun q => go (h3.2 q) hl hv.2.2)
    · exact lv_icmp_ne hx hb hdg (mv_tgt_out hg) (fun q => go (h3.1 q) hl hv.2.2) (fun q => go (h3.2 q) hl hv.2.2)
    · exact lv_icmp_lt hx hb hdg (mv_tgt_out hg) (fun q => go (h3.1 q) hl hv.2.2) (fun q => go (h3.2 q) hl hv.2.2)
    · exact lv_icmp_ge hx hb hdg (mv_tgt_out hg) (fun q => go (h3.1 q) hl hv.2.2) (fun q => go (h3.2 q) hl hv.2.2)
    · exact lv_icmp_gt hx hb hdg (mv_tgt_out hg) (fun q => go (h3.1 q) hl hv.2.2) (fun q => go (h3.2 q) hl hv.2.2)
    · exact lv_icmp_le hx hb hdg (mv_tgt_out hg) (fun q => go (h3.1 q) hl hv.2.2) (fun q => go (h3.2 q) hl hv.2.2)
  | ifCond cc off =>
    obtain rfl : len = 3 := eq_of_beq (show (len == 3) = true from hln)
    cases cc <;> obtain ⟨x, r, rfl, h3⟩ := mv_pI_iff.mp hk
    · exact lv_if_eq hx hb hdg (mv_tgt_out hg) (fun q => go (h3.1 q) hl hv.2) (fun q => go (h3.2 q) hl hv.2)
    · exact lv_if_ne hx hb hdg (mv_tgt_out hg) (fun q => go (h3.1 q) hl hv.2) (fun q => go (h3.2 q) hl hv.2)
    · exact lv_if_lt hx hb hdg (mv_tgt_out hg) (fun q => go (h3.1 q) hl hv.2) (fun q => go (h3.2 q) hl hv.2)
    · exact lv_if_ge hx hb hdg (mv_tgt_out hg) (fun q => go (h3.1 q) hl hv.2) (fun q => go (h3.2 q) hl hv.2)
    · exact lv_if_gt hx hb hdg (mv_tgt_out hg) (fun q => go (h3.1 q) hl hv.2) (fun q => go (h3.2 q) hl hv.2)
    · exact lv_if_le hx hb hdg (mv_tgt_out hg) (fun q => go (h3.1 q) hl hv.2) (fun q => go (h3.2 q) hl hv.2)
  | goto off =>
    obtain rfl : len = 3 := eq_of_beq (show (len == 3) = true from hln)
    exact lv_goto hx hb hdg (mv_tgt_out hg) (go hk hl hv)
  | dup =>
    obtain rfl : len = 1 := eq_of_beq (show (len == 1) = true from hln)
    obtain ⟨v, r, rfl, h1, -, h2⟩ := mv_pV_out hk
    exact lv_dup hx hb hdg (by rw [mv_rv_cat]; exact h1) (go h2 hl ⟨hv.1, hv.1, hv.2⟩)
  | dup_x1 =>
    obtain rfl : len = 1 := eq_of_beq (show (len == 1) = true from hln)
    obtain ⟨v, r, rfl, h1, -, h2⟩ := mv_pV_out hk
    obtain ⟨w, r, rfl, h3, -, h4⟩ := mv_pV_out h2
    exact lv_dup_x1 hx hb hdg (by rw [mv_rv_cat]; exact h1) (by rw [mv_rv_cat]; exact h3) (go h4 hl ⟨hv.1, hv.2.1, hv.1, hv.2.2⟩)
  | dup2 =>
    obtain rfl : len = 1 := eq_of_beq (show (len == 1) = true from hln)
    obtain ⟨v, r, rfl, h1, -, h2⟩ := mv_pV_out hk
    obtain ⟨w, r, rfl, h3, -, h4⟩ := mv_pV_out h2
    exact lv_dup2_11 hx hb hdg (by rw [mv_rv_cat]; exact h1) (by rw [mv_rv_cat]; exact h3) (go h4 hl ⟨hv.1, hv.2.1, hv.1, hv.2.1, hv.2.2⟩)
  | pop =>
    obtain rfl : len = 1 := eq_of_beq (show (len == 1) = true from hln)
    obtain ⟨v, r, rfl, h1, -, h2⟩ := mv_pV_out hk
    exact lv_pop hx hb hdg (by rw [mv_rv_cat]; exact h1) (go h2 hl hv.2)
  | tableswitch dd lo hi offs =>
    obtain ⟨x, r, rfl, h2⟩ := mv_pI_iff.mp hk
    have hg : (mv_tgt pc dd (mv_x0 ax) && (mv_tgts pc offs.toList ax.tail && decide (hi = lo + (offs.size : Int) - 1 ∧ -1000 ≤ lo ∧ lo ≤ 1000 ∧ offs.size ≤ 1000))) = true := hg
    simp only [Bool.and_eq_true, decide_eq_true_eq] at hg
    obtain ⟨g1, g2, g3, g4, g5, g6⟩ := hg
    have hlen : offs.toList.length = offs.size := Array.length_toList
    obtain ⟨o1, o2⟩ := mv_sw_out (x := x) (K := fun t => K t L r sh M c1 s1) (Go := fun t => K t L r sh M c1 s1) (fun _ z => z) (off := fun _ => True) lo offs.toList ax.tail (mv_x0 ax) g2 g4 (by rw [hlen]; omega) h2
    rw [hlen] at o1 o2
    by_cases q1 : x.toInt < lo ∨ hi < x.toInt
    · exact lv_tableOut hx hb hdg q1 (mv_tgt_out g1) (go (o1 (by omega)) hl hv.2)
    · obtain ⟨o, t, a1, a2, a3⟩ := o2 (by omega) (by omega)
      exact lv_tableIn hx hb hdg (by omega) (by omega) (by rw [← Array.getElem?_toList]; exact a1) a2 (go a3 hl hv.2)
  | lookupswitch dd ps =>
    obtain ⟨x, r, rfl, h2⟩ := mv_pI_iff.mp hk
    have hg : (mv_tgt pc dd (mv_x0 ax) && (mv_tgts pc (ps.toList.map Prod.snd) ax.tail && ((ps.toList.zip (ps.toList.drop 1)).all (fun (a, next) => decide (a.1 < next.1)) && ps.toList.all (fun a => decide (0 ≤ a.1 ∧ a.1 ≤ 1000))))) = true := hg
    rw [Bool.and_eq_true, Bool.and_eq_true, Bool.and_eq_true] at hg
    obtain ⟨g1, g2, g3, g4⟩ := hg
    obtain ⟨t, a1, a2⟩ := mv_ls_out (x := x) (K := fun t => K t L r sh M c1 s1) (Go := fun t => K t L r sh M c1 s1) (fun _ z => z) (mv_tgt_out g1) ps.toList ax.tail g2 g4 h2
    exact lv_lookup hx hb hdg g3 rfl a1 (go a2 hl hv.2)
  | getfield ix =>
    obtain rfl : len = 3 := eq_of_beq (show (len == 3) = true from hln)
    have hk : mv_getf K ax (pc + 3) L st sh M c1 s1 := hk
    have hg : (match mv_x1 ax with
      | 5 => mv_gfs mt.1.cls ix ax
      | _ => mv_gfl mt.1.cls ix ax) = true := hg
    unfold mv_getf at hk
    split at hk
    · rename_i q5
      rw [q5] at hg
      obtain ⟨a, r, rfl, rfl, h2⟩ := mv_pA_iff.mp hk
      have hg : mv_gfs mt.1.cls ix ax = true := hg
      unfold mv_gfs at hg
      have hS1 := hG.2.2.2.2.2.1 0 (by decide)
      have e1 : (Value.ref 1000 :: r).map (mv_rv ad) = .ref (ad0 1000) :: r.map (mv_rv ad) := by rw [List.map_cons]; exact congrArg (fun z => Value.ref z :: _) (ha _ (Or.inr (by decide)))
      rw [e1]
      by_cases q : mv_x3 ax = 0
      · rw [if_pos q] at hg h2
        exact vk_getf hx hb hS1.2.1 hS hown (htb _ (mv_chk_in hg _ List.mem_cons_self)) (fun _ z => z) hdg (go h2 hl ⟨trivial, hv.2⟩)
      · rw [if_neg q] at hg h2
        have h8 := go h2 hl ⟨Or.inr (by decide), hv.2⟩
        have e2 : (Value.ref 1001 :: r).map (mv_rv ad) = .ref (ad0 1001) :: r.map (mv_rv ad) := by rw [List.map_cons]; exact congrArg (fun z => Value.ref z :: _) (ha _ (Or.inr (by decide)))
        rw [e2] at h8
        exact vk_getf hx hb hS1.2.2.1 hS hown (htb _ (mv_chk_in hg _ List.mem_cons_self)) (fun _ z => z) hdg h8
    · rename_i q5
      have hg : mv_gfl mt.1.cls ix ax = true := by
        split at hg
        · exact absurd (by assumption) q5
        · exact hg
      obtain ⟨a, r, rfl, h2⟩ := mv_pA_iff.mp hk
      obtain ⟨fs, v, h3, h4, h5⟩ := mv_gf_out h2
      obtain ⟨C, T, N, hc, hj, hlk⟩ := mv_gfl_out hg
      have he : (mv_ws cy ad sh M)[a]? = some (ad a, .inr (mv_x2 ax, mv_fs ad (M a) fs)) := mv_ws_at h3
      have hvv : (mv_fs ad (M a) fs)[mv_x3 ax]? = some (mv_rv ad v) := by
        rw [mv_fs_get]
        rcases h4 with ⟨h4, rfl⟩ | h4 <;> rw [h4] <;> rfl
      have hvd : mv_vd sh.length v := by
        rcases h4 with ⟨h4, rfl⟩ | h4
        · trivial
        · exact hw.2 _ _ h3 _ _ h4
      rcases hlk with ⟨hlk, -⟩ | ⟨hlk, -⟩
      · exact va_getN hx hb htb (mv_cl_words hc) hown hK hP a he hc _ hj (va_Nw.use rfl (hG.1 _ hlk)) (fun _ z => z) hvv hdg (go h5 hl ⟨hvd, hv.2⟩)
      · exact va_get hx hb htb (mv_cl_words hc) hown hK hP a he hc _ hj (htb _ hlk) (fun _ z => z) hvv hdg (go h5 hl ⟨hvd, hv.2⟩)
  | putfield ix =>
    obtain rfl : len = 3 := eq_of_beq (show (len == 3) = true from hln)
    obtain ⟨v, r, rfl, -, hform, hpk, h1⟩ := mv_pV_out hk
    obtain ⟨a, r, rfl, h2⟩ := mv_pA_iff.mp h1
    obtain ⟨fs, h3, h4⟩ := mv_pf_out h2
    have hg : (mv_gfl mt.1.cls ix ax && mv_gpf mt.1.cls mt.1.name ax) = true := hg
    rw [Bool.and_eq_true] at hg
    obtain ⟨C, T, N, hc, hj, hlk⟩ := mv_gfl_out hg.1
    obtain ⟨ty0, hty0, hpty, hpn, hfit, hfl⟩ := mv_gpf_out hg.2 hc hj hpk
    have he : (mv_ws cy ad sh M)[a]? = some (ad a, .inr (mv_x2 ax, mv_fs ad (M a) fs)) := mv_ws_at h3
    have hfs : mv_x3 ax < fs.length := by
      rcases h4 with ⟨_, _, h4, _⟩ | ⟨_, _, _, h4, _⟩ <;> exact (List.getElem?_eq_some_iff.mp h4).1
    have hgo : ∀ (H1 : Heap) (locs1 : List Loc), va_P D mv_cl ((mv_ws cy ad sh M).set a (ad a, .inr (mv_x2 ax, (mv_fs ad (M a) fs).set (mv_x3 ax) (mv_rv ad v)))) H1 → va_D A ((mv_ws cy ad sh M).set a (ad a, .inr (mv_x2 ax, (mv_fs ad (M a) fs).set (mv_x3 ax) (mv_rv ad v)))) → va_S A s.heap H1 locs1 →
        W p l e R s m args below meth c H1 locs1 c1 s1 (MQ below (mv_Qc D cy ad0 sh0 A P) args s R.cells R.slots A) (F0 m (pc + 3) ls (r.map (mv_rv ad))) := by
      intro H1 locs1 hP1 hD1 hS1
      rcases h4 with ⟨x, rfl, h4, h5⟩ | ⟨b, w, rfl, h4, h5⟩
      · rw [show (mv_fs ad (M a) fs).set (mv_x3 ax) (mv_rv ad (.int x)) = mv_fs ad (upd (M a) (mv_x3 ax) x) fs from mv_fs_setI h4] at hP1 hD1
        exact goM (g := upd (M a) (mv_x3 ax) x) h5 h3 hv.2.2 hP1 hD1 hS1
      · rw [mv_fs_setR hfs] at hP1 hD1
        have q1 : ((mv_ws cy ad sh M).set a (ad a, .inr (mv_x2 ax, mv_fs ad (M a) (fs.set (mv_x3 ax) (some (.ref b)))))) = mv_ws cy ad (sh.set a (.inr (.inl (mv_x2 ax, fs.set (mv_x3 ax) (some (.ref b)))))) M := by
          have q2 := mv_ws_set (cy := cy) (ad := ad) (M := M) (e' := .inr (.inl (mv_x2 ax, fs.set (mv_x3 ax) (some (.ref b))))) (g := M a) h3
          rw [mv_wr_id] at q2
          exact q2
        rw [q1] at hP1 hD1
        have hset : (sh.set a (.inr (.inl (mv_x2 ax, fs.set (mv_x3 ax) (some (.ref b)))))).length = sh.length := List.length_set
        refine hKX _ _ _ _ _ _ _ h5 ad H1 locs1 ls hP1 hD1 hS1 (mv_wf_set hw ?_) (by rw [hset]; exact hn) ha (by rw [hset]; exact hl) (by rw [hset]; exact hv.2.2) hc1 hs1
        intro j u hu
        by_cases hju : mv_x3 ax = j
        · subst hju
          rw [List.getElem?_set_self hfs] at hu
          cases hu
          exact hv.1
        · rw [List.getElem?_set_ne hju] at hu
          exact hw.2 _ _ h3 j u hu
    have hlen : mv_x3 ax < (mv_fs ad (M a) fs).length := by rw [mv_fs_len]; exact hfs
    have hpn2 : ∀ t, narrow t v = v → narrow t (mv_rv ad v) = mv_rv ad v := fun t z => by
      rcases hform with ⟨x, rfl⟩ | ⟨b, rfl⟩ | rfl
      · exact z
      · cases t <;> rfl
      · exact z
    have hft2 : fits (ty0 (mv_x3 ax)) (mv_rv ad v) = true := by
      rcases hform with ⟨x, rfl⟩ | ⟨b, rfl⟩ | rfl
      · exact hfit
      · revert hfit; cases ty0 (mv_x3 ax) <;> exact fun z => z
      · exact hfit
    rcases hlk with ⟨hlk, hx1⟩ | ⟨hlk, hx1⟩
    · rcases hfl with ⟨h7, -⟩ | ⟨h6, h7, h8, h9⟩
      · exact va_putN hx hb htb (mv_cl_words hc) ty0 hty0 (mv_cl_nm _ (List.mem_of_getElem? hc)) hown hK hP hD hS a he hc _ hj (va_Nw.use rfl (hG.1 _ hlk)) (fun _ z => z) h7 hpty (hpn2 _ hpn) hft2 hlen hdg hgo
      · rw [hx1] at h6; exact absurd h6 (by decide)
    · rcases hfl with ⟨h7, -⟩ | ⟨h6, h7, h8, h9⟩
      · exact va_put hx hb htb (mv_cl_words hc) ty0 hty0 (mv_cl_nm _ (List.mem_of_getElem? hc)) hown hK hP hD hS a he hc _ hj (htb _ hlk) (fun _ z => z) h7 hpty (hpn2 _ hpn) hft2 hlen hdg hgo
      · exact va_putF hx hb htb (mv_cl_words hc) ty0 hty0 (mv_cl_nm _ (List.mem_of_getElem? hc)) hown hK hP hD hS a he hc _ hj (htb _ hlk) (fun _ z => z) h7 (by rw [hnm]; exact h8) h9 hpty (hpn2 _ hpn) hft2 hlen hdg hgo
  | iaload =>
    obtain rfl : len = 1 := eq_of_beq (show (len == 1) = true from hln)
    obtain ⟨i, r, rfl, h2⟩ := mv_pI_iff.mp hk
    obtain ⟨a, r, rfl, h3⟩ := mv_pA_iff.mp h2
    obtain ⟨t, n, h4, ⟨rfl, h5⟩, h6⟩ := mv_nums_iff.mp h3
    exact va_iald hx hb hK hP a 0 (mv_ws_at h4) rfl h5 hdg (go h6 hl ⟨trivial, hv.2.2⟩)
  | baload =>
    obtain rfl : len = 1 := eq_of_beq (show (len == 1) = true from hln)
    obtain ⟨i, r, rfl, h2⟩ := mv_pI_iff.mp hk
    obtain ⟨a, r, rfl, h3⟩ := mv_pA_iff.mp h2
    obtain ⟨t, n, h4, ⟨ht, h5⟩, h6⟩ := mv_nums_iff.mp h3
    rcases ht with rfl | rfl
    · exact va_bald hx hb hK hP a 1 (mv_ws_at h4) rfl h5 hdg (go h6 hl ⟨trivial, hv.2.2⟩)
    · exact va_zald hx hb hK hP a 2 (mv_ws_at h4) rfl h5 hdg (go h6 hl ⟨trivial, hv.2.2⟩)
  | iastore =>
    obtain rfl : len = 1 := eq_of_beq (show (len == 1) = true from hln)
    obtain ⟨x, r, rfl, h1⟩ := mv_pI_iff.mp hk
    obtain ⟨i, r, rfl, h2⟩ := mv_pI_iff.mp h1
    obtain ⟨a, r, rfl, h3⟩ := mv_pA_iff.mp h2
    obtain ⟨t, n, h4, ⟨rfl, h5⟩, h6⟩ := mv_nums_iff.mp h3
    exact va_iast hx hb hK hP hD hS a 0 (mv_ws_at h4) rfl h5 hdg (fun H1 locs1 hP1 hD1 hS1 => goM (g := upd (M a) i.toNatClampNeg x) h6 h4 hv.2.2.2 hP1 hD1 hS1)
  | bastore =>
    obtain rfl : len = 1 := eq_of_beq (show (len == 1) = true from hln)
    obtain ⟨x, r, rfl, h1⟩ := mv_pI_iff.mp hk
    obtain ⟨i, r, rfl, h2⟩ := mv_pI_iff.mp h1
    obtain ⟨a, r, rfl, h3⟩ := mv_pA_iff.mp h2
    obtain ⟨t, n, h4, ⟨ht, h5⟩, h6⟩ := mv_nums_iff.mp h3
    rcases ht with ⟨rfl, ht⟩ | ⟨rfl, ht⟩
    · have q : vp_nar .byte x = x := by rw [vp_nar_byte]; exact ht
      refine va_bast hx hb hK hP hD hS a 1 (mv_ws_at h4) rfl h5 hdg (fun H1 locs1 hP1 hD1 hS1 => ?_)
      rw [q] at hP1 hD1
      exact goM (g := upd (M a) i.toNatClampNeg x) h6 h4 hv.2.2.2 hP1 hD1 hS1
    · have q : vp_nar .boolean x = x := by rcases ht with rfl | rfl <;> decide
      refine va_zast hx hb hK hP hD hS a 2 (mv_ws_at h4) rfl h5 hdg (fun H1 locs1 hP1 hD1 hS1 => ?_)
      rw [q] at hP1 hD1
      exact goM (g := upd (M a) i.toNatClampNeg x) h6 h4 hv.2.2.2 hP1 hD1 hS1
  | aaload =>
    obtain rfl : len = 1 := eq_of_beq (show (len == 1) = true from hln)
    obtain ⟨i, r, rfl, h2⟩ := mv_pI_iff.mp hk
    obtain ⟨a, r, rfl, h3⟩ := mv_pA_iff.mp h2
    obtain ⟨t, n, g, h4, ⟨rfl, h5⟩, h6⟩ := mv_refs_iff.mp h3
    cases hgi : g i.toNatClampNeg with
    | none => rw [hgi] at h6; exact h6.elim
    | some b =>
      rw [hgi] at h6
      have h8 := go h6 hl (st' := .ref b :: r) ⟨hw.2 _ _ h4 _ _ hgi, hv.2.2⟩
      have h9 : (Value.ref b :: r).map (mv_rv ad) = va_rf ((g i.toNatClampNeg).map ad) :: r.map (mv_rv ad) := by rw [hgi]; rfl
      rw [h9] at h8
      exact va_aldq hx hb hK hP a 3 (mv_ws_at h4) rfl h5 hdg h8
  | aastore =>
    obtain rfl : len = 1 := eq_of_beq (show (len == 1) = true from hln)
    obtain ⟨b, r, rfl, h1⟩ := mv_pA_iff.mp hk
    obtain ⟨i, r, rfl, h2⟩ := mv_pI_iff.mp h1
    obtain ⟨a, r, rfl, h3⟩ := mv_pA_iff.mp h2
    obtain ⟨t, n, g, h4, ⟨rfl, h5, h5b⟩, h6⟩ := mv_refs_iff.mp h3
    obtain ⟨vs, hvs⟩ : ∃ vs, sh[b]? = some (.inr (.inl (0, vs))) := by
      unfold mv_isO at h5b
      dsimp only at h5b
      split at h5b
      · rename_i ci' vs hq; rw [h5b] at hq; exact ⟨vs, hq⟩
      · exact h5b.elim
    refine va_astq hx hb hK hP hD hS a 3 b 0 (mv_ws_at h4) rfl (mv_ws_at hvs) rfl h5 hdg (fun H1 locs1 hP1 hD1 hS1 => ?_)
    have q0 : va_up (fun j => (g j).map ad) i.toNatClampNeg (some (ad b)) = (fun j => ((va_up g i.toNatClampNeg (some b)) j).map ad) := by
      funext j
      unfold va_up
      split <;> rfl
    rw [q0] at hP1 hD1
    have q1 : ((mv_ws cy ad sh M).set a (ad a, mv_cell cy ad (M a) (.inr (.inr (3, n, va_up g i.toNatClampNeg (some b)))))) = mv_ws cy ad (sh.set a (.inr (.inr (3, n, va_up g i.toNatClampNeg (some b))))) M := by
      have q2 := mv_ws_set (cy := cy) (ad := ad) (M := M) (e' := .inr (.inr (3, n, va_up g i.toNatClampNeg (some b)))) (g := M a) h4
      rw [mv_wr_id] at q2
      exact q2
    replace hP1 : va_P D mv_cl ((mv_ws cy ad sh M).set a (ad a, mv_cell cy ad (M a) (.inr (.inr (3, n, va_up g i.toNatClampNeg (some b)))))) H1 := hP1
    replace hD1 : va_D A ((mv_ws cy ad sh M).set a (ad a, mv_cell cy ad (M a) (.inr (.inr (3, n, va_up g i.toNatClampNeg (some b)))))) := hD1
    rw [q1] at hP1 hD1
    have hset : (sh.set a (.inr (.inr (3, n, va_up g i.toNatClampNeg (some b))))).length = sh.length := List.length_set
    refine hKX _ _ _ _ _ _ _ h6 ad H1 locs1 ls hP1 hD1 hS1 (mv_wf_set hw ?_) (by rw [hset]; exact hn) ha (by rw [hset]; exact hl) (by rw [hset]; exact hv.2.2.2) hc1 hs1
    intro j u hu
    unfold va_up at hu
    split at hu
    · cases hu; exact hv.1
    · exact hw.2 _ _ h4 j u hu
  | arraylength =>
    obtain rfl : len = 1 := eq_of_beq (show (len == 1) = true from hln)
    have hk : mv_alen K ax (pc + 1) L st sh M c1 s1 := hk
    unfold mv_alen at hk
    split at hk
    · obtain ⟨a, r, rfl, h2⟩ := mv_pA_iff.mp hk
      obtain ⟨t, n, h4, h5, h6⟩ := mv_nums_iff.mp h2
      have : t = 0 ∨ t = 1 ∨ t = 2 := by omega
      rcases this with rfl | rfl | rfl
      · exact va_alen hx hb hK hP a 0 (mv_ws_at h4) rfl rfl hdg (go h6 hl ⟨trivial, hv.2⟩)
      · exact va_alen hx hb hK hP a 1 (mv_ws_at h4) rfl rfl hdg (go h6 hl ⟨trivial, hv.2⟩)
      · exact va_alen hx hb hK hP a 2 (mv_ws_at h4) rfl rfl hdg (go h6 hl ⟨trivial, hv.2⟩)
    · obtain ⟨a, r, rfl, rfl, h2⟩ := mv_pA_iff.mp hk
      have e1 : (Value.ref 1001 :: r).map (mv_rv ad) = .ref (ad0 1001) :: r.map (mv_rv ad) := by rw [List.map_cons]; exact congrArg (fun z => Value.ref z :: _) (ha _ (Or.inr (by decide)))
      rw [e1]
      exact va_tlen hx hb (hG.2.2.2.2.2.1 0 (by decide)).2.2.2 hS rfl hdg (go h2 hl ⟨trivial, hv.2⟩)
  | ireturn =>
    obtain rfl : len = 1 := eq_of_beq (show (len == 1) = true from hln)
    have hk2 : mv_pR st (fun v => mv_nr (mv_x0 ax) v ∧ P (some (.int v)) sh M) := hk
    clear hk
    unfold mv_pR at hk2
    split at hk2
    · rename_i v
      obtain ⟨ty, hrt, hna⟩ := mv_ret_out hg hk2.1
      refine W.widen hc1 hs1 ?_
      exact W.zret hx hb (hr.trans hrt) hna (fun t ht hW => fin t (some (.int v)) ht hk2.2 (fun x hx => by cases hx; trivial)) hS.2.2 hdg
    · exact hk2.elim
  | areturn =>
    obtain rfl : len = 1 := eq_of_beq (show (len == 1) = true from hln)
    have hk2 : mv_pQ st (fun v => P (some (.ref v)) sh M) := hk
    clear hk
    unfold mv_pQ at hk2
    split at hk2
    · rename_i v
      have hg : (match mt.2.2.2.1 with
        | some (.object _) => true
        | some (.array _) => true
        | _ => false) = true := hg
      refine W.widen hc1 hs1 ?_
      split at hg
      · rename_i n hrt
        exact W.aret hx hb (hr.trans hrt) (Or.inl ⟨_, rfl⟩) (Or.inr ⟨_, rfl⟩) (fun t ht hW => fin t (some (.ref v)) ht hk2 (fun x hx => by cases hx; exact hv.1)) hS.2.2 hdg
      · rename_i n hrt
        exact W.aret hx hb (hr.trans hrt) (Or.inr ⟨_, rfl⟩) (Or.inr ⟨_, rfl⟩) (fun t ht hW => fin t (some (.ref v)) ht hk2 (fun x hx => by cases hx; exact hv.1)) hS.2.2 hdg
      · cases hg
    · exact hk2.elim
  | return_ =>
    obtain rfl : len = 1 := eq_of_beq (show (len == 1) = true from hln)
    have hk2 : mv_p0 st (P none sh M) := hk
    clear hk
    unfold mv_p0 at hk2
    split at hk2
    · refine W.widen hc1 hs1 ?_
      exact W.vret hx hb (hr.trans (of_decide_eq_true hg)) (fun t ht hW => fin t none ht hk2 (fun x hx => by cases hx)) hS.2.2 hdg
    · exact hk2.elim
  | new ix =>
    obtain rfl : len = 3 := eq_of_beq (show (len == 3) = true from hln)
    exact mv_c_new hx hb hown hts hK hA hKX hP hD hS hw hn ha hl hv hk hg hdg
  | newarray t =>
    obtain rfl : len = 2 := eq_of_beq (show (len == 2) = true from hln)
    exact mv_c_newarray hx hb hts hK hA hKX hP hD hS hw hn ha hl hv hk hg hdg
  | anewarray ix =>
    obtain rfl : len = 3 := eq_of_beq (show (len == 3) = true from hln)
    exact mv_c_anewarray hx hb hown hts hK hG hA hKX hP hD hS hw hn ha hl hv hk hg hdg
  | invokevirtual ix =>
    obtain rfl : len = 3 := eq_of_beq (show (len == 3) = true from hln)
    exact mv_c_ivk (op := 0) hRe hx hb hml hown hts hSo hK hG hA hKX hP hD hS hw hn ha hl hv hc1 hs1 hk hg ⟨fun _ => hdg, fun z => absurd z (by decide), fun z => absurd z (by decide)⟩
  | invokestatic ix =>
    obtain rfl : len = 3 := eq_of_beq (show (len == 3) = true from hln)
    exact mv_c_ivk (op := 1) hRe hx hb hml hown hts hSo hK hG hA hKX hP hD hS hw hn ha hl hv hc1 hs1 hk hg ⟨fun z => absurd z (by decide), fun _ => hdg, fun z => absurd z (by decide)⟩
  | invokespecial ix =>
    obtain rfl : len = 3 := eq_of_beq (show (len == 3) = true from hln)
    exact mv_c_ivk (op := 2) hRe hx hb hml hown hts hSo hK hG hA hKX hP hD hS hw hn ha hl hv hc1 hs1 hk hg ⟨fun z => absurd z (by decide), fun z => absurd z (by decide), fun _ => hdg⟩
  | _ => exact hk.elim
end CORE
