/-! the law: its loop and its beginning -/
theorem toI64 : ∀ t : Fin 64, (nI t.1).toInt = (t.1 : Int) := by decide
theorem lw_gt {L i : Nat} (hL : L ≤ 320) (hi : i ≤ 320) (h : ¬ nI L - nI 5 < nI i) : i + 5 ≤ L := by
  by_cases c : 5 ≤ L
  · rw [q_sub c] at h
    have nn : ¬ L - 5 < i := fun z => h ((nI_ltI (show L - 5 < 2147483648 by omega) (show i < 2147483648 by omega)).mpr z)
    omega
  · exfalso
    have neg : ∀ q : Fin 5, nI q.1 - nI 5 < nI 0 := by decide
    have n := neg ⟨L, by omega⟩
    dsimp only at n
    have z : nI 0 ≤ nI i := (nI_leI (by decide) (by omega)).mpr (Nat.zero_le _)
    exact h (Int32.lt_of_lt_of_le n z)
section LAWE
variable {p : Program} {l : Launch} {e : Env} {s : State} {m : MethodId} {below : List Frame} {meth : Method} {c : Code} {Qt : State → Prop}
variable {ls : Array Slot} {H : Heap} {locs : List Loc} {b L : Nat} {xs : Nat → Int32} {c1 s1 : Nat}
/-- each of the 34 calls -/
theorem lw_tab34 {i k : Nat} {D : va_G} {cy : Nat → ClassId} {a0 ax an : Nat → Nat} {sx sn : mv_Shp} {X N : mv_Mem} (hi : i + 5 ≤ L) (hL : L ≤ 320) (hk : k < 64)
    (hx : p.tables.exec = Jvm.exec) (hb : c.code = code) (hml : c.maxLocals = 4) (hown : s.vm.findClass R_law = some m.cls) (htb : ∀ w ∈ mv_tb, w.before #[Value.ref b] s = true) (hX : va_X b L xs s s.heap) (hbl : b < s.heap.size)
    (hK : va_K D mv_cl (mv_tys cy) s) (hG : mv_G a0 (lw_A s) s)
    (inv : lwI s D cy a0 ax an sx sn X N k H locs c1 s1) (hl : lv_has ls 4 [(0, .ref b), (1, .ref (ax 0)), (2, .ref (an 0)), (3, .int (nI i))])
    (kk : ∀ (X' N' : mv_Mem) (H1 : Heap) (locs1 : List Loc) (c2 s2 : Nat), lwI s D cy a0 ax an sx sn X' N' (k + 1) H1 locs1 c2 s2 → W p l e room_1 s m #[Value.ref b] below meth c H1 locs1 c2 s2 Qt (F0 m 926 ls [])) :
    ∀ t, t < 34 → ∃ (o : Int) (tgt : Nat), lwoff[t]? = some o ∧ ((32 : Nat) : Int) + o = (tgt : Int) ∧ W p l e room_1 s m #[Value.ref b] below meth c H locs c1 s1 Qt (F0 m tgt ls [])
  | 0, _ => ⟨152, 184, rfl, rfl, lw_case lwd0 rfl lwg0 ⟨rfl, rfl, rfl, rfl, by decide, by decide⟩ ⟨rfl, rfl, rfl, rfl, rfl, rfl⟩ (tw_write _) (by decide) hi hL hk hx hb hml hown htb hX hbl hK hG inv hl kk⟩
  | 1, _ => ⟨175, 207, rfl, rfl, lw_case lwd1 rfl lwg1 ⟨rfl, rfl, rfl, rfl, by decide, by decide⟩ ⟨rfl, rfl, rfl, rfl, rfl, rfl⟩ (tw_wipe) (by decide) hi hL hk hx hb hml hown htb hX hbl hK hG inv hl kk⟩
  | 2, _ => ⟨188, 220, rfl, rfl, lw_case lwd2 rfl lwg2 ⟨rfl, rfl, rfl, rfl, by decide, by decide⟩ ⟨rfl, rfl, rfl, rfl, rfl, rfl⟩ (tw_fault) (by decide) hi hL hk hx hb hml hown htb hX hbl hK hG inv hl kk⟩
  | 3, _ => ⟨201, 233, rfl, rfl, lw_case lwd3 rfl lwg3 ⟨rfl, rfl, rfl, rfl, by decide, by decide⟩ ⟨rfl, rfl, rfl, rfl, rfl, rfl⟩ (tw_lay) (by decide) hi hL hk hx hb hml hown htb hX hbl hK hG inv hl kk⟩
  | 4, _ => ⟨214, 246, rfl, rfl, lw_case lwd4 rfl lwg4 ⟨rfl, rfl, rfl, rfl, by decide, by decide⟩ ⟨rfl, rfl, rfl, rfl, rfl, rfl⟩ (tw_tablet _ _) (by decide) hi hL hk hx hb hml hown htb hX hbl hK hG inv hl kk⟩
  | 5, _ => ⟨247, 279, rfl, rfl, lw_case lwd5 rfl lwg5 ⟨rfl, rfl, rfl, rfl, by decide, by decide⟩ ⟨rfl, rfl, rfl, rfl, rfl, rfl⟩ (tw_hole _ _) (by decide) hi hL hk hx hb hml hown htb hX hbl hK hG inv hl kk⟩
  | 6, _ => ⟨280, 312, rfl, rfl, lw_case lwd6 rfl lwg6 ⟨rfl, rfl, rfl, rfl, by decide, by decide⟩ ⟨rfl, rfl, rfl, rfl, rfl, rfl⟩ (tw_pack _) (by decide) hi hL hk hx hb hml hown htb hX hbl hK hG inv hl kk⟩
  | 7, _ => ⟨303, 335, rfl, rfl, lw_case lwd7 rfl lwg7 ⟨rfl, rfl, rfl, rfl, by decide, by decide⟩ ⟨rfl, rfl, rfl, rfl, rfl, rfl⟩ (tw_draft _) (by decide) hi hL hk hx hb hml hown htb hX hbl hK hG inv hl kk⟩
  | 8, _ => ⟨326, 358, rfl, rfl, lw_case lwd8 rfl lwg8 ⟨rfl, rfl, rfl, rfl, by decide, by decide⟩ ⟨rfl, rfl, rfl, rfl, rfl, rfl⟩ (tw_top _) (by decide) hi hL hk hx hb hml hown htb hX hbl hK hG inv hl kk⟩
  | 9, _ => ⟨349, 381, rfl, rfl, lw_case lwd9 rfl lwg9 ⟨rfl, rfl, rfl, rfl, by decide, by decide⟩ ⟨rfl, rfl, rfl, rfl, rfl, rfl⟩ (tw_row _ _) (by decide) hi hL hk hx hb hml hown htb hX hbl hK hG inv hl kk⟩
  | 10, _ => ⟨382, 414, rfl, rfl, lw_case lwd10 rfl lwg10 ⟨rfl, rfl, rfl, rfl, by decide, by decide⟩ ⟨rfl, rfl, rfl, rfl, rfl, rfl⟩ (tw_weave _ _) (by decide) hi hL hk hx hb hml hown htb hX hbl hK hG inv hl kk⟩
  | 11, _ => ⟨415, 447, rfl, rfl, lw_case lwd11 rfl lwg11 ⟨rfl, rfl, rfl, rfl, by decide, by decide⟩ ⟨rfl, rfl, rfl, rfl, rfl, rfl⟩ (tw_again) (by decide) hi hL hk hx hb hml hown htb hX hbl hK hG inv hl kk⟩
  | 12, _ => ⟨428, 460, rfl, rfl, lw_case lwd12 rfl lwg12 ⟨rfl, rfl, rfl, rfl, by decide, by decide⟩ ⟨rfl, rfl, rfl, rfl, rfl, rfl⟩ (tw_unweave) (by decide) hi hL hk hx hb hml hown htb hX hbl hK hG inv hl kk⟩
  | 13, _ => ⟨441, 473, rfl, rfl, lw_case lwd13 rfl lwg13 ⟨rfl, rfl, rfl, rfl, by decide, by decide⟩ ⟨rfl, rfl, rfl, rfl, rfl, rfl⟩ (tw_turn_ _ _) (by decide) hi hL hk hx hb hml hown htb hX hbl hK hG inv hl kk⟩
  | 14, _ => ⟨474, 506, rfl, rfl, lw_case lwd14 rfl lwg14 ⟨rfl, rfl, rfl, rfl, by decide, by decide⟩ ⟨rfl, rfl, rfl, rfl, rfl, rfl⟩ (tw_flip _) (by decide) hi hL hk hx hb hml hown htb hX hbl hK hG inv hl kk⟩
  | 15, _ => ⟨497, 529, rfl, rfl, lw_case lwd15 rfl lwg15 ⟨rfl, rfl, rfl, rfl, by decide, by decide⟩ ⟨rfl, rfl, rfl, rfl, rfl, rfl⟩ (tw_comb _) (by decide) hi hL hk hx hb hml hown htb hX hbl hK hG inv hl kk⟩
  | 16, _ => ⟨520, 552, rfl, rfl, lw_case lwd16 rfl lwg16 ⟨rfl, rfl, rfl, rfl, by decide, by decide⟩ ⟨rfl, rfl, rfl, rfl, rfl, rfl⟩ (tw_cut) (by decide) hi hL hk hx hb hml hown htb hX hbl hK hG inv hl kk⟩
  | 17, _ => ⟨533, 565, rfl, rfl, lw_case lwd17 rfl lwg17 ⟨rfl, rfl, rfl, rfl, by decide, by decide⟩ ⟨rfl, rfl, rfl, rfl, rfl, rfl⟩ (tw_undo) (by decide) hi hL hk hx hb hml hown htb hX hbl hK hG inv hl kk⟩
  | 18, _ => ⟨546, 578, rfl, rfl, lw_case lwd18 rfl lwg18 ⟨rfl, rfl, rfl, rfl, by decide, by decide⟩ ⟨rfl, rfl, rfl, rfl, rfl, rfl⟩ (tw_round) (by decide) hi hL hk hx hb hml hown htb hX hbl hK hG inv hl kk⟩
  | 19, _ => ⟨559, 591, rfl, rfl, lw_case lwd19 rfl lwg19 ⟨rfl, rfl, rfl, rfl, by decide, by decide⟩ ⟨rfl, rfl, rfl, rfl, rfl, rfl⟩ (tw_twist _) (by decide) hi hL hk hx hb hml hown htb hX hbl hK hG inv hl kk⟩
  | 20, _ => ⟨582, 614, rfl, rfl, lw_case lwd20 rfl lwg20 ⟨rfl, rfl, rfl, rfl, by decide, by decide⟩ ⟨rfl, rfl, rfl, rfl, rfl, rfl⟩ (tw_jammed) (by decide) hi hL hk hx hb hml hown htb hX hbl hK hG inv hl kk⟩
  | 21, _ => ⟨595, 627, rfl, rfl, lw_case lwd21 rfl lwg21 ⟨rfl, rfl, rfl, rfl, by decide, by decide⟩ ⟨rfl, rfl, rfl, rfl, rfl, rfl⟩ (tw_fewest _ _) (by decide) hi hL hk hx hb hml hown htb hX hbl hK hG inv hl kk⟩
  | 22, _ => ⟨628, 660, rfl, rfl, lw_case lwd22 rfl lwg22 ⟨rfl, rfl, rfl, rfl, by decide, by decide⟩ ⟨rfl, rfl, rfl, rfl, rfl, rfl⟩ (tw_can) (by decide) hi hL hk hx hb hml hown htb hX hbl hK hG inv hl kk⟩
  | 23, _ => ⟨641, 673, rfl, rfl, lw_case lwd23 rfl lwg23 ⟨rfl, rfl, rfl, rfl, by decide, by decide⟩ ⟨rfl, rfl, rfl, rfl, rfl, rfl⟩ (tw_needs _) (by decide) hi hL hk hx hb hml hown htb hX hbl hK hG inv hl kk⟩
  | 24, _ => ⟨664, 696, rfl, rfl, lw_case lwd24 rfl lwg24 ⟨rfl, rfl, rfl, rfl, by decide, by decide⟩ ⟨rfl, rfl, rfl, rfl, rfl, rfl⟩ (tw_see _) (by decide) hi hL hk hx hb hml hown htb hX hbl hK hG inv hl kk⟩
  | 25, _ => ⟨687, 719, rfl, rfl, lw_case lwd25 rfl lwg25 ⟨rfl, rfl, rfl, rfl, by decide, by decide⟩ ⟨rfl, rfl, rfl, rfl, rfl, rfl⟩ (tw_forget) (by decide) hi hL hk hx hb hml hown htb hX hbl hK hG inv hl kk⟩
  | 26, _ => ⟨700, 732, rfl, rfl, lw_case lwd26 rfl lwg26 ⟨rfl, rfl, rfl, rfl, by decide, by decide⟩ ⟨rfl, rfl, rfl, rfl, rfl, rfl⟩ (tw_ways) (by decide) hi hL hk hx hb hml hown htb hX hbl hK hG inv hl kk⟩
  | 27, _ => ⟨713, 745, rfl, rfl, lw_case lwd27 rfl lwg27 ⟨rfl, rfl, rfl, rfl, by decide, by decide⟩ ⟨rfl, rfl, rfl, rfl, rfl, rfl⟩ (tw_lies) (by decide) hi hL hk hx hb hml hown htb hX hbl hK hG inv hl kk⟩
  | 28, _ => ⟨726, 758, rfl, rfl, lw_case lwd28 rfl lwg28 ⟨rfl, rfl, rfl, rfl, by decide, by decide⟩ ⟨rfl, rfl, rfl, rfl, rfl, rfl⟩ (tw_amiss _) (by decide) hi hL hk hx hb hml hown htb hX hbl hK hG inv hl kk⟩
  | 29, _ => ⟨749, 781, rfl, rfl, lw_case lwd29 rfl lwg29 ⟨rfl, rfl, rfl, rfl, by decide, by decide⟩ ⟨rfl, rfl, rfl, rfl, rfl, rfl⟩ (tw_slips _ _ _ _) (by decide) hi hL hk hx hb hml hown htb hX hbl hK hG inv hl kk⟩
  | 30, _ => ⟨802, 834, rfl, rfl, lw_case lwd30 rfl lwg30 ⟨rfl, rfl, rfl, rfl, by decide, by decide⟩ ⟨rfl, rfl, rfl, rfl, rfl, rfl⟩ (tw_bands _ _ _) (by decide) hi hL hk hx hb hml hown htb hX hbl hK hG inv hl kk⟩
  | 31, _ => ⟨845, 877, rfl, rfl, lw_case lwd31 rfl lwg31 ⟨rfl, rfl, rfl, rfl, by decide, by decide⟩ ⟨rfl, rfl, rfl, rfl, rfl, rfl⟩ (tw_keep) (by decide) hi hL hk hx hb hml hown htb hX hbl hK hG inv hl kk⟩
  | 32, _ => ⟨858, 890, rfl, rfl, lw_case lwd32 rfl lwg32 ⟨rfl, rfl, rfl, rfl, by decide, by decide⟩ ⟨rfl, rfl, rfl, rfl, rfl, rfl⟩ (tw_back) (by decide) hi hL hk hx hb hml hown htb hX hbl hK hG inv hl kk⟩
  | 33, _ => ⟨871, 903, rfl, rfl, lw_case lwd33 rfl lwg33 ⟨rfl, rfl, rfl, rfl, by decide, by decide⟩ ⟨rfl, rfl, rfl, rfl, rfl, rfl⟩ (tw_count _) (by decide) hi hL hk hx hb hml hown htb hX hbl hK hG inv hl kk⟩
  | t + 34, h => absurd h (by omega)
theorem lw_loop {below : List Frame} {D : va_G} {cy : Nat → ClassId} {a0 ax an : Nat → Nat} {sx sn : mv_Shp} (hL : L ≤ 320) (C0 : lw_At p s m meth c b L xs)
    (hK : va_K D mv_cl (mv_tys cy) s) (hG : mv_G a0 (lw_A s) s) :
    ∀ fuel k (X N : mv_Mem) (H : Heap) (locs : List Loc) (c1 s1 : Nat) (ls : Array Slot), 65 ≤ fuel + k → k ≤ 64 → lwI s D cy a0 ax an sx sn X N k H locs c1 s1 → lv_has ls 4 [(0, .ref b), (1, .ref (ax 0)), (2, .ref (an 0)), (3, .int (nI (5 * k)))] →
      W p l e room_1 s m #[Value.ref b] below meth c H locs c1 s1 (lw_Z below #[Value.ref b] s) (F0 m 18 ls []) := by
  intro fuel
  induction fuel with
  | zero =>
    intro k X N H locs c1 s1 ls h hk inv hl
    exact absurd h (by omega)
  | succ fuel ih =>
    intro k X N H locs c1 s1 ls h hk inv hl
    obtain ⟨hx, hb, hr, hml, hown, hts, hX, hbl, hlocks, hgv⟩ := id C0
    have htb := lw_tbm hts
    have hbA : ¬ lw_A s b := Nat.not_le.mpr hbl
    have hS := inv.2.2.2.1
    have hcc := inv.2.2.2.2.2.2.2.2.2.2.2
    refine lv_iload_n hx hb lwx_18 rfl (lv_at hl 3 rfl) ?_
    refine lv_aload_n hx hb lwx_19 rfl (lv_at hl 0 rfl) ?_
    refine va_slen hx hb hX hbl hbA hS lwx_20 ?_
    refine lv_iconst (v := nI 5) hx hb lwx_21 (by decide) ?_
    refine lv_isub hx hb lwx_22 ?_
    refine lv_icmp_gt (tgt := 932) hx hb lwx_23 (by decide) (fun _ => ?_) (fun q1 => ?_)
    · refine lv_iconst (v := 1) hx hb lwx_932 (by decide) ?_
      refine va_forget (fun q hq => hS.2.2 q hq) ?_
      refine W.widen (k := 600000) (n := 7302249) (by omega) (by omega) ?_
      exact lw_ret hx hb hr hlocks lwx_933
    · have hi : 5 * k + 5 ≤ L := lw_gt hL (by omega) q1
      have hk2 : k < 64 := by omega
      have next : ∀ (X' N' : mv_Mem) (H1 : Heap) (locs1 : List Loc) (c2 s2 : Nat), lwI s D cy a0 ax an sx sn X' N' (k + 1) H1 locs1 c2 s2 → W p l e room_1 s m #[Value.ref b] below meth c H1 locs1 c2 s2 (lw_Z below #[Value.ref b] s) (F0 m 926 ls []) := by
        intro X' N' H1 locs1 c2 s2 inv'
        refine lv_iinc (v := nI (5 * (k + 1))) (lv' := [(3, .int (nI (5 * (k + 1)))), (0, .ref b), (1, .ref (ax 0)), (2, .ref (an 0))]) hx hb lwx_926 hl (k := 3) rfl (by show nI (5 * k) + nI 5 = nI (5 * (k + 1)); rw [q_add]; rfl) (by decide) rfl (fun ls hl => ?_)
        refine lv_goto (tgt := 18) hx hb lwx_929 (by decide) ?_
        exact ih (k + 1) X' N' H1 locs1 c2 s2 ls (by omega) (by omega) inv' (lv_sub hl [1, 2, 3, 0] rfl)
      refine lv_aload_n hx hb lwx_26 rfl (lv_at hl 0 rfl) ?_
      refine lv_iload_n hx hb lwx_27 rfl (lv_at hl 3 rfl) ?_
      refine va_sld hx hb hX hbl hbA hS (vp_in_nI (by omega) (by omega)) lwx_28 ?_
      refine lv_bipush (v := nI 63) hx hb lwx_29 (by decide) ?_
      refine lv_iand hx hb lwx_31 ?_
      obtain ⟨t, t64, et⟩ : ∃ t, t < 64 ∧ xs (nI (5 * k)).toNatClampNeg &&& nI 63 = nI t := pk_andE _ (m := nI 63) 6 (by decide)
      rw [et]
      have ti : (nI t).toInt = (t : Int) := toI64 ⟨t, t64⟩
      by_cases q2 : t < 34
      · obtain ⟨o, tgt, o1, o2, o3⟩ := lw_tab34 (Qt := lw_Z below #[Value.ref b] s) hi hL hk2 hx hb hml hown htb hX hbl hK hG inv hl next t q2
        exact lv_tableIn hx hb lwx_32 (by rw [ti]; omega) (by rw [ti]; omega) (by rw [ti]; exact o1) o2 o3
      · refine lv_tableOut (tgt := 926) hx hb lwx_32 (by rw [ti]; omega) (by decide) ?_
        obtain ⟨i1, i2, i3, i4, i5, i6, i7, i8, i9, i10, i11, i12, i13⟩ := inv
        exact next X N H locs c1 s1 ⟨i1, i2, i3, i4, i5, i6, i7, i8, i9.up, i10, i11, by omega, by omega⟩
end LAWE
