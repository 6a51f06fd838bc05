/-! numbers of the law -/
theorem i_add {x y : Int32} (h : -2147483648 ≤ x.toInt + y.toInt ∧ x.toInt + y.toInt < 2147483648) : (x + y).toInt = x.toInt + y.toInt := by
  rw [Int32.toInt_add]; exact Int.bmod_eq_of_le (by omega) (by omega)
theorem i_sub {x y : Int32} (h : -2147483648 ≤ x.toInt - y.toInt ∧ x.toInt - y.toInt < 2147483648) : (x - y).toInt = x.toInt - y.toInt := by
  rw [Int32.toInt_sub]; exact Int.bmod_eq_of_le (by omega) (by omega)
theorem i_mul {x y : Int32} (h : -2147483648 ≤ x.toInt * y.toInt ∧ x.toInt * y.toInt < 2147483648) : (x * y).toInt = x.toInt * y.toInt := by
  rw [Int32.toInt_mul]; exact Int.bmod_eq_of_le (by omega) (by omega)
theorem i_div {x y : Int32} (hx : 0 ≤ x.toInt) (hy : 0 < y.toInt) : (x / y).toInt = x.toInt / y.toInt := by
  have hne : y ≠ -1 := fun q => by rw [q, show (-1 : Int32).toInt = -1 by decide] at hy; omega
  rw [Int32.toInt_div_of_ne_right _ _ hne, Int.tdiv_eq_ediv_of_nonneg hx]
theorem rem_i {x y : Int32} (hx : 0 ≤ x.toInt) (hy : 0 < y.toInt) : (rem x y).toInt = x.toInt % y.toInt := by
  have h1 := i_rng x
  have hd := i_div hx hy
  have e := Int.mul_ediv_add_emod x.toInt y.toInt
  have m0 := Int.emod_nonneg x.toInt (b := y.toInt) (by omega)
  have m1 := Int.emod_lt_of_pos x.toInt hy
  have q0 : 0 ≤ x.toInt / y.toInt := Int.ediv_nonneg hx (by omega)
  have ec : y.toInt * (x.toInt / y.toInt) = x.toInt / y.toInt * y.toInt := Int.mul_comm _ _
  have p0 : 0 ≤ x.toInt / y.toInt * y.toInt := Int.mul_nonneg q0 (by omega)
  have hm : (x / y * y).toInt = x.toInt / y.toInt * y.toInt := by rw [i_mul (by rw [hd]; omega), hd]
  rw [rem, i_sub (by rw [hm]; omega), hm]
  omega
theorem rem_rng {x y : Int32} (hx : 0 ≤ x.toInt) (hy : 0 < y.toInt) : 0 ≤ (rem x y).toInt ∧ (rem x y).toInt < y.toInt := by
  rw [rem_i hx hy]
  exact ⟨Int.emod_nonneg _ (by omega), Int.emod_lt_of_pos _ hy⟩
theorem nb_1 {x : Int32} (h : 0 ≤ x.toInt ∧ x.toInt ≤ 9972) : f_X5_isWithin ((1000000001 : Int32) + x) (-1000000000) 1000000000 = 0 := by
  have e : (1000000001 : Int32).toInt = 1000000001 := by decide
  refine wi_out (Or.inr ?_)
  rw [i_add (by rw [e]; omega), e, show (1000000000 : Int32).toInt = 1000000000 by decide]; omega
theorem nb_3 {x : Int32} (h : 0 ≤ x.toInt ∧ x.toInt ≤ 9972) : f_X5_isWithin ((-1 : Int32) - x) 1 1000000000 = 0 := by
  have e : (-1 : Int32).toInt = -1 := by decide
  refine wi_out (Or.inl ?_)
  rw [i_sub (by rw [e]; omega), e, show (1 : Int32).toInt = 1 by decide]; omega
theorem nb_4 {x : Int32} (h : 0 ≤ x.toInt ∧ x.toInt ≤ 9972) : f_X5_isWithin ((1000000001 : Int32) + x) 1 1000000000 = 0 := by
  have e : (1000000001 : Int32).toInt = 1000000001 := by decide
  refine wi_out (Or.inr ?_)
  rw [i_add (by rw [e]; omega), e, show (1000000000 : Int32).toInt = 1000000000 by decide]; omega
theorem nb_5 {x : Int32} (h : 0 ≤ x.toInt ∧ x.toInt ≤ 9972) : f_X5_isWithin ((301 : Int32) + x) (-300) 300 = 0 := by
  have e : (301 : Int32).toInt = 301 := by decide
  refine wi_out (Or.inr ?_)
  rw [i_add (by rw [e]; omega), e, show (300 : Int32).toInt = 300 by decide]; omega
theorem nb_8 {x : Int32} (h : 0 ≤ x.toInt ∧ x.toInt ≤ 9972) : f_X5_isWithin ((21 : Int32) + x) 0 20 = 0 := by
  have e : (21 : Int32).toInt = 21 := by decide
  refine wi_out (Or.inr ?_)
  rw [i_add (by rw [e]; omega), e, show (20 : Int32).toInt = 20 by decide]; omega
theorem ns_1 : ¬ okS 0 0 0 0 := fun h => h.1 (by decide)
theorem ns_2 : ¬ okS 1 (-1000001) 0 0 := fun h => h.2.1 (by decide)
theorem ns_3 : ¬ okS 1 0 (-1) 0 := fun h => h.2.2.1 (by decide)
theorem ok_1 : okS 1 0 0 0 := ⟨by decide, by decide, by decide, by decide⟩
theorem nx_1 : ¬ okX 500001 0 0 := fun h => h.1 (by decide)
theorem nx_2 : ¬ okX 0 (-1) 0 := fun h => h.2.1 (by decide)
theorem nx_3 {x : Int32} (h : 0 ≤ x.toInt ∧ x.toInt ≤ 9972) : ¬ okX 0 0 ((500001 : Int32) + x) := fun q => q.2.2 (by
  have e : (500001 : Int32).toInt = 500001 := by decide
  refine wi_out (Or.inr ?_)
  rw [i_add (by rw [e]; omega), e, show (500000 : Int32).toInt = 500000 by decide]; omega)
theorem no_neg {Mm : Mem} {x : Int32} (h : 0 ≤ x.toInt ∧ x.toInt ≤ 9972) : noS Mm ((-1 : Int32) - rem x 50) := by
  have e : (-1 : Int32).toInt = -1 := by decide
  have hr := rem_rng (x := x) (y := 50) h.1 (by decide)
  rw [show (50 : Int32).toInt = 50 by decide] at hr
  left
  rw [i_sub (by rw [e]; omega), e]; omega
theorem no_big {Mm : Mem} {x : Int32} (h : 0 ≤ x.toInt ∧ x.toInt ≤ 9972) (h8 : sn Mm ≤ 8) : noS Mm (nI (sn Mm) + rem x 50) := by
  have e : (nI (sn Mm)).toInt = (sn Mm : Int) := nI_toInt (by omega)
  have hr := rem_rng (x := x) (y := 50) h.1 (by decide)
  rw [show (50 : Int32).toInt = 50 by decide] at hr
  right
  rw [i_add (by rw [e]; omega), e]; omega
theorem sv_rem {x : Int32} {n : Nat} (h : 0 ≤ x.toInt) (hn : n ≤ 8) (h0 : (0 : Int32) < nI n) : ∃ j, rem x (nI n) = nI j ∧ j < n := by
  have e : (nI n).toInt = (n : Int) := nI_toInt (by omega)
  have h0' := (k_pos (n := n) (by omega)).mp h0
  have hr := rem_rng (x := x) (y := nI n) h (by rw [e]; omega)
  rw [e] at hr
  refine ⟨(rem x (nI n)).toInt.toNat, i_eq ?_, by omega⟩
  rw [nI_toInt (by omega)]
  omega
theorem sn_ne {n : Nat} (hn : n ≤ 8) (h0 : (0 : Int32) < nI n) : ¬ nI n = 0 := fun q => by rw [q] at h0; exact absurd h0 (by decide)
theorem oA_0 {Mm : Mem} {k : Nat} (h : ¬ (0 : Int32) < nI (kn Mm k)) (h8 : kn Mm k ≤ 8) : oA Mm k = -9999003 ∧ dA Mm k = -9999003 ∧ jA Mm k = -9999003 ∧ tA Mm k = -9999003 := by
  have h0 : ¬ 0 < kn Mm k := fun q => h ((k_pos (by omega)).mpr q)
  unfold oA dA jA tA
  rw [if_neg h0, if_neg h0, if_neg h0, if_neg h0]
  exact ⟨rfl, rfl, rfl, rfl⟩
theorem lo_0 {Mm : Mem} (h : ¬ (0 : Int32) < nI (AN Mm)) {M : Mem} {t : Int32} (g : CL Mm t M) : loA Mm = -9999003 ∧ hiA Mm = -9999003 ∧ meA Mm = -9999003 := by
  have h8 := AN_le Mm
  have hA : AN Mm = 0 := by
    rcases Nat.eq_zero_or_pos (AN Mm) with q | q
    · exact q
    · exact absurd ((k_pos (by omega)).mpr q) h
  have hc : CN Mm = 0 := by
    rcases Nat.eq_zero_or_pos (CN Mm) with q | q
    · exact q
    · have := (pos_counts g (by omega)).1
      omega
  unfold loA hiA meA
  rw [if_pos hc, if_pos hc, if_pos hc]
  exact ⟨rfl, rfl, rfl⟩
