/-! civil time -/
def come (d : Int32) (t : Int64) : Int64 := f_X0_partCome d t
theorem come_e {d : Nat} (hd : d < 21) {t : Int64} : f_X0_partCome (nI d) t = if t - f_X6_smearFrom (nI d) < 0 then 0 else if t - f_X6_smearFrom (nI d) < 20000000000 then (t - f_X6_smearFrom (nI d)) / 20000 else 1000000 := by
  simp -implicitDefEqProofs (disch := decide) only [f_X0_partCome, bnd_e, bnd2_e, smear_eq hd]
theorem m_neg {y c : Int64} : y + (-1 : Int32).toInt64 * c = y - c := by
  rw [show (-1 : Int32).toInt64 = (-1 : Int64) by decide, Int64.neg_mul, Int64.one_mul, Int64.sub_eq_add_neg]
theorem m_zero {y c : Int64} : y + (0 : Int32).toInt64 * c = y := by
  rw [show (0 : Int32).toInt64 = (0 : Int64) by decide, Int64.zero_mul, Int64.add_zero]
theorem m_one {y c : Int64} : y + (1 : Int32).toInt64 * c = y + c := by
  rw [show (1 : Int32).toInt64 = (1 : Int64) by decide, Int64.one_mul]
theorem cv_step {M : Mem} {r i : Nat} {y : Int64} (hi : i < 21) : f_X6_civil_L7 M (r + 1) i y = f_X6_civil_L7 M r (i + 1) (y + (gB M 0 i).toInt64 * f_X0_partCome (nI i) (f_X6_reading M)) := by
  rw [f_X6_civil_L7, if_pos (show nI i < 21 from nI_lt (b := 21) hi (by decide)), come_e hi]
  simp -implicitDefEqProofs (disch := decide) only [bnd_e, bnd2_e]
  by_cases c1 : f_X6_reading M - f_X6_smearFrom (nI i) < 0
  · rw [if_pos c1, if_pos c1]
  · rw [if_neg c1, if_neg c1]
    by_cases c2 : f_X6_reading M - f_X6_smearFrom (nI i) < 20000000000
    · rw [if_pos c2, if_pos c2]
    · rw [if_neg c2, if_neg c2]
theorem civ_both {Mc Mm : Mem} (h : RLp Mc Mm) : ∀ r i y, i + r = 22 → i ≤ 21 → f_X0_civilTime_L5 Mc (f_X6_reading Mm) r i y = (f_X6_civil_L7 Mm r i y).1 := by
  intro r
  induction r with
  | zero => intro i y h1 h2; omega
  | succ r ih =>
    intro i y h1 h2
    by_cases hi : i < 21
    · rw [cv_step hi, f_X0_civilTime_L5]
      have hc : ¬ (20 : Int32) < nI i := fun q => by have := (nI_ltI (a := 20) (by decide) (by omega)).mp q; omega
      rw [if_neg hc]
      simp -implicitDefEqProofs (disch := decide) only [bnd_e, bnd2_e]
      have n10 : ¬ (1 : Int32) = 0 := by decide
      rcases h i hi with ⟨g1, g2, g3⟩ | ⟨g1, g2, g3⟩ | ⟨g1, g2, g3⟩
      · have e6 : f_X0_contains (gI Mc 6) (nI i) = 0 := by rw [ct0 (by omega), g2]; decide
        have e7 : f_X0_contains (gI Mc 7) (nI i) = 0 := by rw [ct0 (by omega), g3]; decide
        rw [e6, if_pos rfl, e7, if_pos rfl, g1, m_zero]
        exact ih _ _ (by omega) (by omega)
      · have e6 : f_X0_contains (gI Mc 6) (nI i) = 1 := by rw [ct0 (by omega), g2]; decide
        have e7 : f_X0_contains (gI Mc 7) (nI i) = 0 := by rw [ct0 (by omega), g3]; decide
        rw [e6, if_neg n10, e7, if_pos rfl, g1, m_neg]
        exact ih _ _ (by omega) (by omega)
      · have e6 : f_X0_contains (gI Mc 6) (nI i) = 0 := by rw [ct0 (by omega), g2]; decide
        have e7 : f_X0_contains (gI Mc 7) (nI i) = 1 := by rw [ct0 (by omega), g3]; decide
        rw [e6, if_pos rfl, e7, if_neg n10, g1, m_one]
        exact ih _ _ (by omega) (by omega)
    · have e : i = 21 := by omega
      subst e
      rw [f_X0_civilTime_L5, f_X6_civil_L7, if_pos (by decide), if_neg (by decide), bnd2_e, finl_e]
theorem kp_9 {Mc Mm : Mem} (h : RS Mc Mm) (hl : RLp Mc Mm) : f_X5_civil Mc = (f_X6_civil Mm).1 := by
  rw [f_X5_civil, f_X6_civil, bnd_e, bnd_e, bnd_e, f_X0_civilTime, RS_rd h]
  exact civ_both hl _ _ _ (by omega) (by omega)
