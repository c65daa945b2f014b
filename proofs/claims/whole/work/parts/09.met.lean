/-! a method whose code comes to its end by the small machine keeps its contract -/
theorem mv_met {l : Launch} {k : Nat} {mt : mv_Mt} (hmt : mv_meth[k]? = some mt) {cd : mv_Cd} (hpl : plainName mt.1.cls = true) (hcd : mv_goods k cd = true) (hdec : mv_decs mt.2.1 cd) {S : Nat → mv_Sp} (hSo : ∀ j, j < k → mv_Ok l j (S j)) {Sk : mv_Sp}
    (hC : ∀ args sh M P, Sk args sh M P → (mv_al0 args).length ≤ mt.2.2.1 ∧ mv_R mv_DF cd S (mt.2.2.2.2.cells, mt.2.2.2.2.slots) P 0 (mv_ent args mt.2.2.1) [] sh M 0 0) : mv_Ok l k Sk := by
  intro m0 hm0 vs sh M Q hSk hw hv D cy ad sz
  cases hmt.symm.trans hm0
  obtain ⟨hlen, hR⟩ := hC vs sh M Q hSk
  refine Met.ofW (cc := mt.2.1) (maxL := mt.2.2.1) (ret := mt.2.2.2.1) hpl rfl ?_
  intro p e s m args below meth c s₁ B hml hpre
  obtain ⟨rfl, hsz, hP, hK, hD0, hG⟩ := hpre
  have hcd2 : cd.all (mv_good k mt) = true := by
    unfold mv_goods at hcd
    rw [hmt] at hcd
    exact hcd
  rw [lg_entry_eq]
  have hl := mv_ent_lk (ad := ad) hv hlen
  have hD : va_D (va_A (mv_ws cy ad sh M) sz) (mv_ws cy ad sh M) := hD0.self
  refine mv_core (k := k) (mt := mt) (cd := cd) (S := S) (P := Q) (D := D) (cy := cy) (ad0 := ad) (sh0 := sh) (A := va_A (mv_ws cy ad sh M) sz) (R := mt.2.2.2.2) B.exec B.bytes B.returns hml (findClass_of_methodNamed B.named) (atoms_spec (ws := mv_wsk mt) B.pre) B.notSynchronized (name_of_methodNamed B.named B.method).1 rfl hcd2 hdec hSo hK hG (fun q hq => Or.inr (hsz ▸ hq)) hR ad s.heap [] _ hP hD va_S.rf hw (Nat.le_refl _) (fun _ _ => rfl) hl trivial (Nat.zero_le _) (Nat.zero_le _)
