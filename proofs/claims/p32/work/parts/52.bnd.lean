theorem jit_rng {M : Mem} (n : NI M) (w : WFm M) {j : Nat} (hj : j < sn M) (h0 : 0 < kn M j) : 0 ≤ (f_X6_jitterOf M j).toInt ∧ (f_X6_jitterOf M j).toInt ≤ 64000000000 := by
  rw [f_X6_jitterOf]
  exact jit_loop n w hj h0 _ _ _ (by omega) (by omega) (by omega) (by decide) (by rw [show (0 : Int64).toInt = 0 by decide]; omega)
theorem mil_i : (1000000 : Int64).toInt = 1000000 := by decide
theorem rd_i {M : Mem} : (f_X6_reading M).toInt = picI M / 1000000 := by
  rw [rd6, dn_spec mil_pos, mil_i, picI]
