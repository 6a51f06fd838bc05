/-! numbers of 64 bits; division that rounds down -/
theorem l_rng (x : Int64) : -9223372036854775808 ≤ x.toInt ∧ x.toInt < 9223372036854775808 := ⟨x.le_toInt, x.toInt_lt⟩
theorem i_rng (x : Int32) : -2147483648 ≤ x.toInt ∧ x.toInt < 2147483648 := ⟨x.le_toInt, x.toInt_lt⟩
theorem l_add {x y : Int64} (h : -9223372036854775808 ≤ x.toInt + y.toInt ∧ x.toInt + y.toInt < 9223372036854775808) : (x + y).toInt = x.toInt + y.toInt := by
  rw [Int64.toInt_add]; exact Int.bmod_eq_of_le (by omega) (by omega)
theorem l_sub {x y : Int64} (h : -9223372036854775808 ≤ x.toInt - y.toInt ∧ x.toInt - y.toInt < 9223372036854775808) : (x - y).toInt = x.toInt - y.toInt := by
  rw [Int64.toInt_sub]; exact Int.bmod_eq_of_le (by omega) (by omega)
theorem l_mul {x y : Int64} (h : -9223372036854775808 ≤ x.toInt * y.toInt ∧ x.toInt * y.toInt < 9223372036854775808) : (x * y).toInt = x.toInt * y.toInt := by
  rw [Int64.toInt_mul]; exact Int.bmod_eq_of_le (by omega) (by omega)
theorem l_neg {x : Int64} (h : -9223372036854775807 ≤ x.toInt) : (-x).toInt = -x.toInt := by
  have := x.toInt_lt
  rw [Int64.toInt_neg]; exact Int.bmod_eq_of_le (by omega) (by omega)
theorem l_lt {x y : Int64} : x < y ↔ x.toInt < y.toInt := Int64.lt_iff_toInt_lt
theorem i_lt {x y : Int32} : x < y ↔ x.toInt < y.toInt := Int32.lt_iff_toInt_lt
theorem l_eq {x y : Int64} (h : x.toInt = y.toInt) : x = y := Int64.toInt_inj.mp h
theorem i_eq {x y : Int32} (h : x.toInt = y.toInt) : x = y := Int32.toInt_inj.mp h
theorem wi_in {x a b : Int32} {a' b' : Int64} (ha : a'.toInt = a.toInt) (hb : b'.toInt = b.toInt) : f_X6_in x.toInt64 a' b' = f_X5_isWithin x a b := by
  unfold f_X6_in f_X5_isWithin
  simp only [l_lt, i_lt, Int32.toInt_toInt64, ha, hb]
theorem within_1 {x a b : Int32} (h : ¬ f_X5_isWithin x a b = 0) : a.toInt ≤ x.toInt ∧ x.toInt ≤ b.toInt := by
  unfold f_X5_isWithin at h
  by_cases h1 : x < a
  · rw [if_pos h1] at h; exact absurd rfl h
  · rw [if_neg h1] at h
    by_cases h2 : b < x
    · rw [if_pos h2] at h; exact absurd rfl h
    · rw [i_lt] at h1 h2; omega
theorem ediv_uniq {A B q : Int} (hB : 0 < B) (h1 : q * B ≤ A) (h2 : A < (q + 1) * B) : A / B = q :=
  Int.le_antisymm (Int.lt_add_one_iff.mp (Int.ediv_lt_of_lt_mul hB h2)) (Int.le_ediv_of_mul_le hB h1)
/-- the quotient rounded towards 0, times the divisor -/
theorem tdiv_cases {A B : Int} (hB : 0 < B) : (0 ≤ A → A.tdiv B = A / B ∧ 0 ≤ A.tdiv B * B ∧ A.tdiv B * B ≤ A ∧ A < A.tdiv B * B + B) ∧ (A < 0 → A ≤ A.tdiv B * B ∧ A.tdiv B * B ≤ 0 ∧ A.tdiv B * B < A + B) := by
  constructor
  · intro h
    have e : A.tdiv B = A / B := Int.tdiv_eq_ediv_of_nonneg h
    have h1 := Int.ediv_mul_le A (Int.ne_of_gt hB)
    have h2 := Int.lt_ediv_add_one_mul_self A hB
    have h3 : 0 ≤ A / B * B := Int.mul_nonneg (Int.ediv_nonneg h (by omega)) (by omega)
    rw [Int.add_mul] at h2
    rw [e]
    exact ⟨rfl, h3, h1, by omega⟩
  · intro h
    have e : A.tdiv B = -((-A) / B) := by
      have e1 : A = -(-A) := by omega
      rw [show A.tdiv B = (-(-A)).tdiv B by rw [← e1], Int.neg_tdiv, Int.tdiv_eq_ediv_of_nonneg (by omega)]
    have h1 := Int.ediv_mul_le (-A) (Int.ne_of_gt hB)
    have h2 := Int.lt_ediv_add_one_mul_self (-A) hB
    have h3 : 0 ≤ (-A) / B * B := Int.mul_nonneg (Int.ediv_nonneg (by omega) (by omega)) (by omega)
    rw [Int.add_mul] at h2
    rw [e, Int.neg_mul]
    omega
theorem l_quot {a b : Int64} (hb : 0 < b.toInt) : (a / b).toInt = a.toInt.tdiv b.toInt ∧ ((a / b) * b).toInt = a.toInt.tdiv b.toInt * b.toInt ∧ -9223372036854775808 ≤ a.toInt.tdiv b.toInt ∧ a.toInt.tdiv b.toInt < 9223372036854775808 := by
  have hq : (a / b).toInt = a.toInt.tdiv b.toInt := Int64.toInt_div_of_ne_right a b (fun e => by rw [e] at hb; exact absurd hb (by decide))
  have hr := l_rng (a / b)
  have ha := l_rng a
  rw [hq] at hr
  refine ⟨hq, ?_, hr⟩
  obtain ⟨h1, h2⟩ := tdiv_cases (A := a.toInt) hb
  rw [l_mul, hq]
  rw [hq]
  rcases Int.lt_or_le a.toInt 0 with h | h
  · have := h2 h; omega
  · have := h1 h; omega
theorem dn_spec {a b : Int64} (hb : 0 < b.toInt) : (f_X6_down a b).toInt = a.toInt / b.toInt := by
  obtain ⟨hq, hm, hr⟩ := l_quot (a := a) hb
  obtain ⟨h1, h2⟩ := tdiv_cases (A := a.toInt) hb
  simp only [f_X6_down, bnd]
  have hlt : a < (a / b) * b ↔ a.toInt < a.toInt.tdiv b.toInt * b.toInt := by rw [l_lt, hm]
  have e1 : (1 : Int64).toInt = 1 := by decide
  have ha := l_rng a
  have hbr := l_rng b
  rcases Int.lt_or_le a.toInt 0 with h | h
  · have h3 := h2 h
    by_cases hc : a.toInt < a.toInt.tdiv b.toInt * b.toInt
    · rw [if_pos (hlt.mpr hc)]
      have hlo : -9223372036854775808 < a.toInt.tdiv b.toInt := by
        rcases Int.lt_or_le (-9223372036854775808) (a.toInt.tdiv b.toInt) with g | g
        · exact g
        · exfalso
          have : a.toInt.tdiv b.toInt * b.toInt ≤ a.toInt.tdiv b.toInt * 1 := Int.mul_le_mul_of_nonpos_left (by omega) (by omega)
          omega
      rw [l_sub (by rw [hq, e1]; omega), hq, e1]
      symm
      refine ediv_uniq hb ?_ ?_
      · rw [Int.sub_mul]; omega
      · rw [show a.toInt.tdiv b.toInt - 1 + 1 = a.toInt.tdiv b.toInt by omega]; exact hc
    · rw [if_neg (fun q => hc (hlt.mp q)), hq]
      symm
      refine ediv_uniq hb (by omega) ?_
      rw [Int.add_mul]; omega
  · have h3 := h1 h
    rw [if_neg (fun q => by have := hlt.mp q; omega), hq, h3.1]
theorem xor_neg {a b : Int64} (hb : 0 ≤ b.toInt) : (a ^^^ b) < 0 ↔ a.toInt < 0 := by
  have h : (a ^^^ b).toBitVec.msb = (a.toBitVec.msb ^^ b.toBitVec.msb) := BitVec.msb_xor
  rw [BitVec.msb_eq_toInt, BitVec.msb_eq_toInt, BitVec.msb_eq_toInt] at h
  have hb' : decide (b.toBitVec.toInt < 0) = false := decide_eq_false (by show ¬ b.toInt < 0; omega)
  rw [hb', Bool.xor_false] at h
  rw [l_lt]
  exact decide_eq_decide.mp h
theorem fl_dn {a b : Int64} (hb : 0 < b.toInt) : f_J9_floorDiv_f86c9 a b = f_X6_down a b := by
  obtain ⟨hq, hm, hr⟩ := l_quot (a := a) hb
  obtain ⟨h1, h2⟩ := tdiv_cases (A := a.toInt) hb
  simp only [f_X6_down, f_J9_floorDiv_f86c9, bnd]
  rcases Int.lt_or_le a.toInt 0 with h | h
  · have h3 := h2 h
    rw [if_pos ((xor_neg (by omega)).mpr h)]
    by_cases hc : (a / b) * b = a
    · rw [if_pos hc, if_neg (by rw [l_lt, hc]; omega)]
    · rw [if_neg hc, if_pos]
      rw [l_lt, hm]
      have : a.toInt.tdiv b.toInt * b.toInt ≠ a.toInt := fun e => hc (l_eq (by rw [hm, e]))
      omega
  · have h3 := h1 h
    rw [if_neg (fun q => by have := (xor_neg (a := a) (b := b) (by omega)).mp q; omega), if_neg (by rw [l_lt, hm]; omega)]
theorem mil_pos : 0 < (1000000 : Int64).toInt := by decide
theorem two_pos : 0 < (2 : Int64).toInt := by decide
theorem bnd_e {α β : Type} (a : α) (f : α → β) : bnd a f = f a := id rfl
theorem bnd2_e {α β γ : Type} (a : α × β) (f : α → β → γ) : bnd2 a f = f a.1 a.2 := id rfl
theorem rd5 {M : Mem} : f_X1_reading M = f_J9_floorDiv_f86c9 (gL M 2) 1000000 := by rw [f_X1_reading, bnd_e]
theorem rd6 {M : Mem} : f_X6_reading M = f_X6_down (gL M 1) 1000000 := by rw [f_X6_reading, bnd_e]
theorem fl_mil {a : Int64} : f_J9_floorDiv_f86c9 a 1000000 = f_X6_down a 1000000 := fl_dn mil_pos
theorem fl_two {a : Int64} : f_J9_floorDiv_f86c9 a 2 = f_X6_down a 2 := fl_dn two_pos
theorem rd_eq {Mc Mm : Mem} (h : gL Mc 2 = gL Mm 1) : f_X1_reading Mc = f_X6_reading Mm := by rw [rd5, rd6, fl_mil, h]
/-! memories -/
theorem gL_sL {M : Mem} {i j : Nat} {v : Int64} : gL (sL M i v) j = if j = i then v else gL M j := rfl
theorem gI_sI {M : Mem} {i j : Nat} {v : Int32} : gI (sI M i v) j = if j = i then v else gI M j := rfl
theorem gL_sI {M : Mem} {i j : Nat} {v : Int32} : gL (sI M i v) j = gL M j := rfl
theorem gI_sL {M : Mem} {i j : Nat} {v : Int64} : gI (sL M i v) j = gI M j := rfl
theorem gI_sB {M : Mem} {i j : Nat} {v : Nat → Int32} : gI (sB M i v) j = gI M j := rfl
theorem gI_sJ {M : Mem} {i j : Nat} {v : Nat → Int64} : gI (sJ M i v) j = gI M j := rfl
theorem gL_sB {M : Mem} {i j : Nat} {v : Nat → Int32} : gL (sB M i v) j = gL M j := rfl
theorem gL_sJ {M : Mem} {i j : Nat} {v : Nat → Int64} : gL (sJ M i v) j = gL M j := rfl
theorem gB_sI {M : Mem} {i j : Nat} {v : Int32} : gB (sI M i v) j = gB M j := rfl
theorem gB_sL {M : Mem} {i j : Nat} {v : Int64} : gB (sL M i v) j = gB M j := rfl
theorem gB_sJ {M : Mem} {i j : Nat} {v : Nat → Int64} : gB (sJ M i v) j = gB M j := rfl
theorem gJ_sI {M : Mem} {i j : Nat} {v : Int32} : gJ (sI M i v) j = gJ M j := rfl
theorem gJ_sL {M : Mem} {i j : Nat} {v : Int64} : gJ (sL M i v) j = gJ M j := rfl
theorem gJ_sB {M : Mem} {i j : Nat} {v : Nat → Int32} : gJ (sB M i v) j = gJ M j := rfl
theorem gJ_sJ {M : Mem} {i j : Nat} {v : Nat → Int64} : gJ (sJ M i v) j = if j = i then v else gJ M j := rfl
theorem gL_eq {M : Mem} {i : Nat} {v : Int64} : gL (sL M i v) i = v := by rw [gL_sL, if_pos rfl]
theorem gL_ne {M : Mem} {i j : Nat} {v : Int64} (h : j ≠ i) : gL (sL M i v) j = gL M j := by rw [gL_sL, if_neg h]
theorem gI_eq {M : Mem} {i : Nat} {v : Int32} : gI (sI M i v) i = v := by rw [gI_sI, if_pos rfl]
theorem gI_ne {M : Mem} {i j : Nat} {v : Int32} (h : j ≠ i) : gI (sI M i v) j = gI M j := by rw [gI_sI, if_neg h]
theorem gB_eq {M : Mem} {i : Nat} {v : Nat → Int32} : gB (sB M i v) i = v := by rw [gB_sB, if_pos rfl]
theorem gB_ne {M : Mem} {i j : Nat} {v : Nat → Int32} (h : j ≠ i) : gB (sB M i v) j = gB M j := by rw [gB_sB, if_neg h]
theorem gJ_eq {M : Mem} {i : Nat} {v : Nat → Int64} : gJ (sJ M i v) i = v := by rw [gJ_sJ, if_pos rfl]
theorem gJ_ne {M : Mem} {i j : Nat} {v : Nat → Int64} (h : j ≠ i) : gJ (sJ M i v) j = gJ M j := by rw [gJ_sJ, if_neg h]
