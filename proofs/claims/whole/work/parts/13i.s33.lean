/-! what a pick woven leaves -/
theorem wvM_row {M : mv_Mem} {c a p w : Nat} : wvM M c a p w c 2 = nI ((M c 2).toNatClampNeg + 1) := by
  unfold wvM
  exact q_upS
theorem wvM_out {M : mv_Mem} {c a p w b : Nat} (h : b ≠ c) (h1 : b ≠ c + 1) (h2 : b ≠ c + 2) : wvM M c a p w b = M b := by
  unfold wvM
  rw [q_upO h, q_upO h2, q_upO h2, trM_out h1, q_wrO h2]
theorem gL_wv {M : mv_Mem} {c a p w o : Nat} (h : gL M o) (ho : o + 6 < c) : gL (wvM M c a p w) o :=
  gL_of h (wvM_out (by omega) (by omega) (by omega)) (wvM_out (by omega) (by omega) (by omega)) (wvM_out (by omega) (by omega) (by omega)) (wvM_out (by omega) (by omega) (by omega)) (wvM_out (by omega) (by omega) (by omega)) (wvM_out (by omega) (by omega) (by omega)) (wvM_out (by omega) (by omega) (by omega))
theorem gL_rm {M : mv_Mem} (h : gL M 3) : gL (rmM M) 3 :=
  gL_of h (rmM_out (by omega) (by omega)) (rmM_out (by omega) (by omega)) (rmM_out (by omega) (by omega)) (rmM_out (by omega) (by omega)) (rmM_out (by omega) (by omega)) (rmM_out (by omega) (by omega)) (rmM_out (by omega) (by omega))
