/-! bits counted -/
def usR (x k : Int32) : Int32 := (x.toUInt32 >>> (k.toUInt32 &&& Int32.toUInt32 31)).toInt32
def bc1 (x : Int32) : Int32 := x - (usR x (nI 1) &&& nI 1431655765)
def bc2 (x : Int32) : Int32 := (x &&& nI 858993459) + (usR x (nI 2) &&& nI 858993459)
def bc3 (x : Int32) : Int32 := (x + usR x (nI 4)) &&& nI 252645135
def bc4 (x : Int32) : Int32 := x + usR x (nI 8)
def bc5 (x : Int32) : Int32 := x + usR x (nI 16)
def bcE (x : Int32) : Int32 := bc5 (bc4 (bc3 (bc2 (bc1 x)))) &&& nI 63
def sp117 : mv_Sp := fun As sh M Q => ∃ (x : Int32), As = [.int x] ∧ ((True)) ∧ Q (some (.int (bcE x))) (sh) (M)
theorem cl117 {S : Nat → mv_Sp} (hS : S 117 = sp117) {sh : mv_Shp} {M : mv_Mem} {x : Int32} (p1 : True) {K : mv_Kt} {pc : Nat} {L : mv_Loc} {st : List Value} {cc_ ss_ : Nat} : mv_kal S 117 [.int x] sh M K pc L st cc_ ss_ = K pc L ((some (.int (bcE x)) : Option Value).toList ++ st) (sh) (M) cc_ ss_ := by
  refine q_kal (fun F => q_cali (fun Q => ?_))
  rw [hS]
  constructor
  · rintro ⟨x', hE, zp1, hQ⟩
    simp only [List.cons.injEq, Value.ref.injEq, Value.int.injEq, Value.long.injEq, and_true, true_and] at hE
    subst hE
    exact hQ
  · intro hQ
    exact ⟨x, rfl, p1, hQ⟩
theorem ct117 {S : Nat → mv_Sp}  : ∀ As sh M P, sp117 As sh M P → (mv_al0 As).length ≤ 1 ∧ mr117 S P 0 (mv_ent As 1) [] sh M 0 0 := by
  rintro As sh M P ⟨x, rfl, p1, hQ⟩
  refine ⟨Nat.le_of_ble_eq_true rfl, ?_⟩
  show mr117 S P 0 [some (.int x)] [] sh M 0 0
  have e : ∀ (x k : Int32), (x.toUInt32 >>> (k.toUInt32 &&& Int32.toUInt32 31)).toInt32 = usR x k := fun _ _ => rfl
  have e1 : ∀ x, x - (usR x (nI 1) &&& nI 1431655765) = bc1 x := fun _ => rfl
  have e2 : ∀ x, (x &&& nI 858993459) + (usR x (nI 2) &&& nI 858993459) = bc2 x := fun _ => rfl
  have e3 : ∀ x, (x + usR x (nI 4)) &&& nI 252645135 = bc3 x := fun _ => rfl
  have e4 : ∀ x, x + usR x (nI 8) = bc4 x := fun _ => rfl
  have e5 : ∀ x, x + usR x (nI 16) = bc5 x := fun _ => rfl
  unfold bcE at hQ
  simp (disch := first | assumption | omega) only [e117_0, e117_1, e117_2, e117_3, e117_4, e117_7, e117_8, e117_9, e117_10, e117_11, e117_14, e117_15, e117_16, e117_17, e117_18, e117_21, e117_22, e117_23, e117_24, e117_25, e117_26, e117_27, e117_28, e117_29, e117_32, e117_33, e117_34, e117_35, e117_36, e117_38, e117_39, e117_40, e117_41, e117_42, e117_43, e117_45, e117_46, e117_47, e117_48, e117_49, e117_51, e117_52, q_gv0, q_gvs, q_isI1, q_isA1, q_hs0, q_hsn, q_hsi, q_hsr, q_hss, q_inc1, List.set_cons_zero, List.set_cons_succ, ↓reduceIte, q_ss0, q_ssi, q_ssr, q_nr0, q_nr10, q_nr11, q_tlS, q_tlN, q_cl, q_let, q_lef, q_ltt, q_ltf, q_eqt, q_eqf, q_add, q_mul, Nat.reduceAdd, Nat.reduceLeDiff, Nat.reduceEqDiff, eq_self, Nat.zero_le, Nat.le_refl, not_false_eq_true, not_true_eq_false, true_and, and_true, and_self, if_true, if_false, e, e1, e2, e3, e4, e5]
  exact hQ
theorem bc64 : ∀ k : Fin 64, bcE (nI k.1) = nI (k.1 % 2 + k.1 / 2 % 2 + k.1 / 4 % 2 + k.1 / 8 % 2 + k.1 / 16 % 2 + k.1 / 32 % 2) := by decide +kernel
