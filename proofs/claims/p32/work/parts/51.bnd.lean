/-! bounds -/
theorem size_i {v : Int64} (h : -9223372036854775807 ≤ v.toInt) : (f_X6_size v).toInt = if v.toInt < 0 then -v.toInt else v.toInt := by
  rw [f_X6_size]
  have hc : v < 0 ↔ v.toInt < 0 := l_lt
  by_cases c : v < 0
  · rw [if_pos c, l_neg h, if_pos (hc.mp c)]
  · rw [if_neg c, if_neg (fun q => c (hc.mpr q))]
theorem l_quo {a b : Int64} (ha : 0 ≤ a.toInt) (hb : 0 < b.toInt) : (a / b).toInt = a.toInt / b.toInt := by rw [(l_quot hb).1, Int.tdiv_eq_ediv_of_nonneg ha]
theorem quo_le {a b : Int} (ha : 0 ≤ a) (hb : 0 < b) : 0 ≤ a / b ∧ a / b ≤ a := ⟨Int.ediv_nonneg ha (by omega), Int.ediv_le_self b ha⟩
theorem kn1_i {n : Nat} (hn : n < 100) : ((nI n).toInt64 - 1).toInt = (n : Int) - 1 := by
  have e1 : (1 : Int64).toInt = 1 := by decide
  rw [l_sub, Int32.toInt_toInt64, nI_toInt (by omega), e1]
  rw [Int32.toInt_toInt64, nI_toInt (by omega), e1]; omega
/-- a sample's numbers, out of NI -/
theorem NI_smp {M : Mem} (n : NI M) {k : Nat} (hk : k < sn M) {t : Nat} (h1 : 8 * k ≤ t) (h2 : t < 8 * k + kn M k) : okN (dev M) (nowI M) (picI M / 1000000) (gJ M 0 t).toInt (gJ M 1 t).toInt (gJ M 2 t).toInt := by
  have h := (n.2 k hk).2.2.2 (t - 8 * k) (by omega)
  rw [show 8 * k + (t - 8 * k) = t by omega] at h
  exact h
theorem NI_off {M : Mem} (n : NI M) {k : Nat} (hk : k < sn M) {t : Nat} (h1 : 8 * k ≤ t) (h2 : t < 8 * k + kn M k) : -4000000000 ≤ (gJ M 0 t).toInt ∧ (gJ M 0 t).toInt ≤ 4000000000 := by
  have h := NI_smp n hk h1 h2
  obtain ⟨⟨⟨a1, a2⟩, ⟨a3, a4⟩, -⟩, -⟩ := n
  obtain ⟨b1, b2, -⟩ := h
  omega
theorem jit_loop {M : Mem} (n : NI M) (w : WFm M) {j : Nat} (hj : j < sn M) (h0 : 0 < kn M j) : ∀ r i y, i + r = 8 * j + kn M j + 1 → 8 * j ≤ i → i ≤ 8 * j + kn M j → 0 ≤ y.toInt → y.toInt ≤ 8000000000 * ((i : Int) - 8 * j) →
    0 ≤ (f_X6_jitterOf_L8 M j r i y).toInt ∧ (f_X6_jitterOf_L8 M j r i y).toInt ≤ 64000000000 := by
  have hj8 : j < 8 := Nat.lt_of_lt_of_le hj (WFs w).1
  have hk8 := (WFk w hj8).1
  obtain ⟨e1, e2, e3⟩ := best_spec hj8 hk8
  have hB := e3 h0
  have hob := NI_off n hj hB.1.1 hB.1.2
  intro r
  induction r with
  | zero => intro i y h1 h2 h3; omega
  | succ r ih =>
    intro i y h1 h2 h3 h4 h5
    rw [f_X6_jitterOf_L8]
    by_cases hc : nI i < nI (8 * j + kn M j)
    · have hc' : i < 8 * j + kn M j := nI_lt8 hc (by omega) (by omega)
      rw [if_pos hc]
      simp -implicitDefEqProofs (disch := decide) only [bnd_e, bnd2_e]
      have hoi := NI_off n hj h2 hc'
      have e : (f_X6_best M j).toNatClampNeg = bx M j := rfl
      rw [e]
      have hs : (gJ M 0 i - gJ M 0 (bx M j)).toInt = (gJ M 0 i).toInt - (gJ M 0 (bx M j)).toInt := l_sub (by omega)
      have hz := size_i (v := gJ M 0 i - gJ M 0 (bx M j)) (by rw [hs]; omega)
      rw [hs] at hz
      have hz2 : 0 ≤ (f_X6_size (gJ M 0 i - gJ M 0 (bx M j))).toInt ∧ (f_X6_size (gJ M 0 i - gJ M 0 (bx M j))).toInt ≤ 8000000000 := by
        rw [hz]; split <;> omega
      have ha : (y + f_X6_size (gJ M 0 i - gJ M 0 (bx M j))).toInt = y.toInt + (f_X6_size (gJ M 0 i - gJ M 0 (bx M j))).toInt := l_add (by omega)
      exact ih (i + 1) _ (by omega) (by omega) (by omega) (by rw [ha]; omega) (by rw [ha]; push_cast; omega)
    · have e : i = 8 * j + kn M j := by
        rcases Nat.lt_or_ge i (8 * j + kn M j) with q | q
        · exact absurd (nI_lt q (by omega)) hc
        · omega
      rw [if_neg hc]
      by_cases h9 : nI (kn M j) = 1
      · rw [if_pos h9]; exact ⟨by decide, by decide⟩
      · rw [if_neg h9]
        have hne : kn M j ≠ 1 := fun q => h9 (by rw [q]; rfl)
        have hk1 := kn1_i (n := kn M j) (by omega)
        rw [l_quo h4 (by rw [hk1]; omega), hk1]
        have := quo_le h4 (b := (kn M j : Int) - 1) (by omega)
        omega
