
theorem half_rng {x n : Int} (h : 0 ≤ x ∧ x ≤ n) : 0 ≤ x / 2 ∧ x / 2 ≤ n := by omega
theorem age_rng {R t : Int} (h1 : t ≤ R) (h2 : -4000000000 ≤ t) (h3 : R ≤ 1100000000000) : 0 ≤ 15 * (R - t) / 1000000 ∧ 15 * (R - t) / 1000000 ≤ 100000000000 := by omega
theorem sum5 {a b c d e : Int64} (ha : 0 ≤ a.toInt ∧ a.toInt ≤ 100000000000) (hb : 0 ≤ b.toInt ∧ b.toInt ≤ 100000000000) (hc : 0 ≤ c.toInt ∧ c.toInt ≤ 100000000000) (hd : 0 ≤ d.toInt ∧ d.toInt ≤ 100000000000) (he : 0 ≤ e.toInt ∧ e.toInt ≤ 100000000000) :
    0 ≤ (a + b + c + d + e).toInt ∧ (a + b + c + d + e).toInt ≤ 1000000000000 := by
  have h1 : (a + b).toInt = a.toInt + b.toInt := l_add (by omega)
  have h2 : (a + b + c).toInt = a.toInt + b.toInt + c.toInt := by rw [l_add (by rw [h1]; omega), h1]
  have h3 : (a + b + c + d).toInt = a.toInt + b.toInt + c.toInt + d.toInt := by rw [l_add (by rw [h2]; omega), h2]
  have h4 : (a + b + c + d + e).toInt = a.toInt + b.toInt + c.toInt + d.toInt + e.toInt := by rw [l_add (by rw [h3]; omega), h3]
  rw [h4]
  omega
theorem rd_rng {M : Mem} (n : NI M) : -4000000000 ≤ picI M / 1000000 ∧ picI M / 1000000 ≤ 1100000000000 := by
  obtain ⟨⟨⟨a1, a2⟩, ⟨a3, a4⟩, -⟩, -⟩ := n
  unfold dev at a3 a4
  omega
theorem age_e {r t : Int64} (h1 : t.toInt ≤ r.toInt) (h2 : -4000000000 ≤ t.toInt) (h3 : r.toInt ≤ 1100000000000) : 0 ≤ (f_X6_down (15 * (r - t)) 1000000).toInt ∧ (f_X6_down (15 * (r - t)) 1000000).toInt ≤ 100000000000 := by
  have e1 : (r - t).toInt = r.toInt - t.toInt := l_sub (by omega)
  have f15 : (15 : Int64).toInt = 15 := by decide
  have e2 : (15 * (r - t)).toInt = 15 * (r.toInt - t.toInt) := by rw [l_mul (by rw [e1, f15]; omega), e1, f15]
  rw [dn_spec mil_pos, e2, mil_i]
  exact age_rng h1 h2 h3
theorem dist_rng {M : Mem} (n : NI M) (w : WFm M) {j : Nat} (hj : j < sn M) (h0 : 0 < kn M j) : 0 ≤ (f_X6_distanceOf M j).toInt ∧ (f_X6_distanceOf M j).toInt ≤ 1000000000000 := by
  have hj8 : j < 8 := Nat.lt_of_lt_of_le hj (WFs w).1
  obtain ⟨-, -, e3⟩ := best_spec hj8 (WFk w hj8).1
  have hB := e3 h0
  obtain ⟨-, -, s3, s4, s5, s6⟩ := NI_smp n hj hB.1.1 hB.1.2
  have hJ := jit_rng n w hj h0
  obtain ⟨-, v1, v2, -⟩ := n.2 j hj
  have hr := rd_rng n
  have c1 : (gB M 3 j / 2).toInt64.toInt = (gB M 3 j).toInt / 2 := by
    rw [Int32.toInt_toInt64, Int32.toInt_div_of_ne_right _ _ (by decide), show (2 : Int32).toInt = 2 by decide, Int.tdiv_eq_ediv_of_nonneg v1.1]
  have c2 : (gJ M 1 (bx M j) / 2).toInt = (gJ M 1 (bx M j)).toInt / 2 := by rw [l_quo s3 two_pos, show (2 : Int64).toInt = 2 by decide]
  have c3 : (gB M 4 j).toInt64.toInt = (gB M 4 j).toInt := Int32.toInt_toInt64 _
  have h1 := half_rng v1
  have h2 := half_rng ⟨s3, s4⟩
  rw [dist_e]
  refine sum5 ?_ ?_ ?_ ?_ (age_e (by rw [rd_i]; exact s6) s5 (by rw [rd_i]; exact hr.2))
  · rw [c1]; exact ⟨h1.1, Int.le_trans h1.2 (by decide)⟩
  · rw [c2]; exact ⟨h2.1, Int.le_trans h2.2 (by decide)⟩
  · rw [c3]; exact ⟨v2.1, Int.le_trans v2.2 (by decide)⟩
  · exact ⟨hJ.1, Int.le_trans hJ.2 (by decide)⟩
theorem dist_ne {M : Mem} (n : NI M) (w : WFm M) {j : Nat} (hj : j < sn M) (h0 : 0 < kn M j) : ¬ f_X6_distanceOf M j + 1 = 0 := by
  have h := dist_rng n w hj h0
  intro e
  have e2 : (f_X6_distanceOf M j + 1).toInt = (f_X6_distanceOf M j).toInt + 1 := by rw [l_add, show (1 : Int64).toInt = 1 by decide]; rw [show (1 : Int64).toInt = 1 by decide]; omega
  rw [e] at e2
  have e3 : (0 : Int64).toInt = 0 := by decide
  omega
