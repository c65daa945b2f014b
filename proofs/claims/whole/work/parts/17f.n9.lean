/-! ArraysSupport.newLength: by hand, for Math.max lies in a class that is not plain -/
theorem mg9 : mv_goods 9 mk9 = true := by decide +kernel
theorem md9 : mv_decs prog_18_method_27_code mk9 := by
  unfold mv_decs
  decide +kernel
theorem mx9 : mv_chk [.methodLink "jdk/internal/util/ArraysSupport" 194 Lib.Math.max.name, .static Lib.Math.max.name, .initialized "java/lang/Math", .code Lib.Math.max.name Lib.Math.max.code 2 (some .int)] [290, 291, 114, 292] = true := by decide +kernel
theorem mt9 : mv_meth[9]? = some (⟨"jdk/internal/util/ArraysSupport", "newLength", "(III)I"⟩, prog_18_method_27_code, 4, some .int, { frames := 1, cells := 0, slots := 0, locals := 21 }) := by rfl
theorem ok9 {l : Launch} {S : Nat → mv_Sp} (hSo : ∀ j, j < 9 → mv_Ok l j (S j)) : mv_Ok l 9 sp9 := by
  intro m0 hm0 vs sh M Q hSk hw hv D cy ad sz
  cases mt9.symm.trans hm0
  obtain ⟨rfl, hQ⟩ := hSk
  refine Met.ofW (cc := prog_18_method_27_code) (maxL := 4) (ret := some .int) (by decide +kernel) rfl ?_
  intro p e s m args below meth c s₁ B hml hpre
  obtain ⟨rfl, hsz, hP, hK, hD0, hG⟩ := hpre
  have hcd2 : mk9.all (mv_good 9 ((⟨"jdk/internal/util/ArraysSupport", "newLength", "(III)I"⟩, prog_18_method_27_code, 4, some .int, { frames := 1, cells := 0, slots := 0, locals := 21 }) : mv_Mt)) = true := by
    have h := mg9
    unfold mv_goods at h
    rw [mt9] at h
    exact h
  rw [lg_entry_eq]
  have hl := mv_ent_lk (ad := ad) hv (show (mv_al0 [Value.int (nI 16), .int (nI 80), .int (nI 18)]).length ≤ 4 from Nat.le_of_ble_eq_true rfl)
  have hD : va_D (va_A (mv_ws cy ad sh M) sz) (mv_ws cy ad sh M) := hD0.self
  have hR : mr9 S Q 6 [some (.int (nI 16)), some (.int (nI 80)), some (.int (nI 18)), none] [.int (nI 80), .int (nI 16)] sh M 0 0 := by
    have e0 : mv_nr 0 (nI 96) = True := rfl
    simp (disch := first | assumption | omega) only [e9_0, e9_1, e9_2, e9_3, e9_6, e9_7, e9_8, e9_9, e9_10, e9_13, e9_14, e9_16, e9_19, e9_20, e9_21, e9_22, q_gv0, q_gvs, q_isI1, q_isA1, q_hs0, q_hsn, q_hsi, q_hsr, q_hss, q_inc1, List.set_cons_zero, List.set_cons_succ, ↓reduceIte, q_ss0, q_ssi, q_ssr, q_nr0, q_nr10, q_nr11, q_tlS, q_tlN, q_cl, q_let, q_lef, q_ltt, q_ltf, q_eqt, q_eqf, q_add, q_mul, Nat.reduceAdd, Nat.reduceLeDiff, Nat.reduceEqDiff, eq_self, Nat.zero_le, Nat.le_refl, not_false_eq_true, not_true_eq_false, true_and, and_true, and_self, if_true, if_false, e0]
    exact hQ
  have core := mv_core (l := l) (e := e) (below := below) (k := 9) (mt := (⟨"jdk/internal/util/ArraysSupport", "newLength", "(III)I"⟩, prog_18_method_27_code, 4, some .int, { frames := 1, cells := 0, slots := 0, locals := 21 })) (cd := mk9) (S := S) (P := Q) (D := D) (cy := cy) (ad0 := ad) (sh0 := sh) (A := va_A (mv_ws cy ad sh M) sz) (R := { frames := 1, cells := 0, slots := 0, locals := 21 }) B.exec B.bytes B.returns hml (findClass_of_methodNamed B.named) (atoms_spec B.pre) B.notSynchronized (name_of_methodNamed B.named B.method).1 rfl hcd2 md9 hSo hK hG (fun q hq => Or.inr (hsz ▸ hq)) hR ad s.heap [] _ hP hD va_S.rf hw (Nat.le_refl _) (fun _ _ => rfl) hl ⟨trivial, trivial, trivial⟩ (Nat.zero_le _) (Nat.zero_le _)
  have hts : ∀ w ∈ mv_tb, w.before ([Value.int (nI 16), .int (nI 80), .int (nI 18)].map (mv_rv ad)).toArray s = true := fun w hw => (atoms_spec B.pre) w (List.mem_cons_of_mem _ hw)
  have hcw := mv_chk_in mx9
  have dg0 := md9 (0, .iload_n 0, 1, []) (.head _)
  have dg1 := md9 (1, .iload_n 1, 1, []) (.tail _ (.head _))
  have dg2 := md9 (2, .iload_n 2, 1, []) (.tail _ (.tail _ (.head _)))
  have dg3 := md9 (3, .invokestatic 194, 3, [3, 8, 2, 0, 0, 0, 0, 290, 291, 114, 292]) (.tail _ (.tail _ (.tail _ (.head _))))
  have l0 := (hl.2.2.2 0 (.int (nI 16)) rfl).2
  have l1 := (hl.2.2.2 1 (.int (nI 80)) rfl).2
  have l2 := (hl.2.2.2 2 (.int (nI 18)) rfl).2
  generalize (lg_sl (List.map (mv_rv ad) [Value.int (nI 16), .int (nI 80), .int (nI 18)]) ++ List.replicate (4 - (lg_sl (List.map (mv_rv ad) [Value.int (nI 16), .int (nI 80), .int (nI 18)])).length) Slot.unset).toArray = ls at *
  refine lv_iload_n B.exec B.bytes dg0 rfl l0 ?_
  refine lv_iload_n B.exec B.bytes dg1 rfl l1 ?_
  refine lv_iload_n B.exec B.bytes dg2 rfl l2 ?_
  refine va_mmax B.exec B.bytes ?_ (findClass_of_methodNamed B.named) (hts _ (hcw _ List.mem_cons_self)) (hts _ (hcw _ (List.mem_cons_of_mem _ List.mem_cons_self))) (hts _ (hcw _ (List.mem_cons_of_mem _ (List.mem_cons_of_mem _ List.mem_cons_self)))) (hts _ (hcw _ (List.mem_cons_of_mem _ (List.mem_cons_of_mem _ (List.mem_cons_of_mem _ List.mem_cons_self))))) (by show 1 ≤ 1; decide) (by show 1 + 0 + 13 ≤ 21; decide) (Nat.zero_le _) (Nat.zero_le _) dg3 ?_
  · rw [hml]; exact hl.1.symm
  · have hm : (if nI 80 < nI 18 then nI 18 else nI 80) = nI 80 := by decide +kernel
    rw [hm]
    exact core
