/-! synchronize, the reference: its value, and that NI stays -/
theorem z_loop1 : ∀ r i M, i + r = 9 → i ≤ 8 → (∀ j, j < i → gB M 5 j = 0) → ∃ g : Nat → Int32, (∀ j, j < 8 → g j = 0) ∧ f_X6_synchronize_L194 r i M = (1, sB M 5 g) := by
  intro r
  induction r with
  | zero => intro i M h1 h2; omega
  | succ r ih =>
    intro i M h1 h2 h
    rw [f_X6_synchronize_L194]
    by_cases hc : nI i < (8 : Int32)
    · have hc' : i < 8 := nI_lt8 (n := 8) hc (by omega) (by decide)
      rw [if_pos hc, bnd_e]
      obtain ⟨g, g1, g2⟩ := ih (i + 1) (sB M 5 (upd (gB M 5) i 0)) (by omega) (by omega) (fun j hj => by
        rw [gB_eq]
        by_cases e : j = i
        · rw [e, upd_eq]
        · rw [upd_ne e]; exact h j (by omega))
      exact ⟨g, g1, by rw [g2, sB_sB]⟩
    · have e : i = 8 := by
        rcases Nat.lt_or_ge i 8 with q | q
        · exact absurd (nI_lt (a := i) (b := 8) q (by decide)) hc
        · omega
      rw [if_neg hc]
      exact ⟨gB M 5, fun j hj => h j (by omega), by rw [sB_self]⟩
theorem z_loop2 : ∀ r i M, i + r = 9 → i ≤ 8 → (∀ j, j < i → gB M 5 j = 0) → ∃ g : Nat → Int32, (∀ j, j < 8 → g j = 0) ∧ f_X6_synchronize_L194_2 r i M = (0, sB M 5 g) := by
  intro r
  induction r with
  | zero => intro i M h1 h2; omega
  | succ r ih =>
    intro i M h1 h2 h
    rw [f_X6_synchronize_L194_2]
    by_cases hc : nI i < (8 : Int32)
    · have hc' : i < 8 := nI_lt8 (n := 8) hc (by omega) (by decide)
      rw [if_pos hc, bnd_e]
      obtain ⟨g, g1, g2⟩ := ih (i + 1) (sB M 5 (upd (gB M 5) i 0)) (by omega) (by omega) (fun j hj => by
        rw [gB_eq]
        by_cases e : j = i
        · rw [e, upd_eq]
        · rw [upd_ne e]; exact h j (by omega))
      exact ⟨g, g1, by rw [g2, sB_sB]⟩
    · have e : i = 8 := by
        rcases Nat.lt_or_ge i 8 with q | q
        · exact absurd (nI_lt (a := i) (b := 8) q (by decide)) hc
        · omega
      rw [if_neg hc]
      exact ⟨gB M 5, fun j hj => h j (by omega), by rw [sB_self]⟩
theorem z_loop3 : ∀ r i M, i + r = 9 → i ≤ 8 → (∀ j, j < i → gB M 5 j = 0) → ∃ g : Nat → Int32, (∀ j, j < 8 → g j = 0) ∧ f_X6_synchronize_L194_3 r i M = (1, sB M 5 g) := by
  intro r
  induction r with
  | zero => intro i M h1 h2; omega
  | succ r ih =>
    intro i M h1 h2 h
    rw [f_X6_synchronize_L194_3]
    by_cases hc : nI i < (8 : Int32)
    · have hc' : i < 8 := nI_lt8 (n := 8) hc (by omega) (by decide)
      rw [if_pos hc, bnd_e]
      obtain ⟨g, g1, g2⟩ := ih (i + 1) (sB M 5 (upd (gB M 5) i 0)) (by omega) (by omega) (fun j hj => by
        rw [gB_eq]
        by_cases e : j = i
        · rw [e, upd_eq]
        · rw [upd_ne e]; exact h j (by omega))
      exact ⟨g, g1, by rw [g2, sB_sB]⟩
    · have e : i = 8 := by
        rcases Nat.lt_or_ge i 8 with q | q
        · exact absurd (nI_lt (a := i) (b := 8) q (by decide)) hc
        · omega
      rw [if_neg hc]
      exact ⟨gB M 5, fun j hj => h j (by omega), by rw [sB_self]⟩
theorem z_loop4 : ∀ r i M, i + r = 9 → i ≤ 8 → (∀ j, j < i → gB M 5 j = 0) → ∃ g : Nat → Int32, (∀ j, j < 8 → g j = 0) ∧ f_X6_synchronize_L194_4 r i M = (0, sB M 5 g) := by
  intro r
  induction r with
  | zero => intro i M h1 h2; omega
  | succ r ih =>
    intro i M h1 h2 h
    rw [f_X6_synchronize_L194_4]
    by_cases hc : nI i < (8 : Int32)
    · have hc' : i < 8 := nI_lt8 (n := 8) hc (by omega) (by decide)
      rw [if_pos hc, bnd_e]
      obtain ⟨g, g1, g2⟩ := ih (i + 1) (sB M 5 (upd (gB M 5) i 0)) (by omega) (by omega) (fun j hj => by
        rw [gB_eq]
        by_cases e : j = i
        · rw [e, upd_eq]
        · rw [upd_ne e]; exact h j (by omega))
      exact ⟨g, g1, by rw [g2, sB_sB]⟩
    · have e : i = 8 := by
        rcases Nat.lt_or_ge i 8 with q | q
        · exact absurd (nI_lt (a := i) (b := 8) q (by decide)) hc
        · omega
      rw [if_neg hc]
      exact ⟨gB M 5, fun j hj => h j (by omega), by rw [sB_self]⟩
theorem z_loop5 : ∀ r i M, i + r = 9 → i ≤ 8 → (∀ j, j < i → gB M 5 j = 0) → ∃ g : Nat → Int32, (∀ j, j < 8 → g j = 0) ∧ f_X6_synchronize_L194_5 r i M = (1, sB M 5 g) := by
  intro r
  induction r with
  | zero => intro i M h1 h2; omega
  | succ r ih =>
    intro i M h1 h2 h
    rw [f_X6_synchronize_L194_5]
    by_cases hc : nI i < (8 : Int32)
    · have hc' : i < 8 := nI_lt8 (n := 8) hc (by omega) (by decide)
      rw [if_pos hc, bnd_e]
      obtain ⟨g, g1, g2⟩ := ih (i + 1) (sB M 5 (upd (gB M 5) i 0)) (by omega) (by omega) (fun j hj => by
        rw [gB_eq]
        by_cases e : j = i
        · rw [e, upd_eq]
        · rw [upd_ne e]; exact h j (by omega))
      exact ⟨g, g1, by rw [g2, sB_sB]⟩
    · have e : i = 8 := by
        rcases Nat.lt_or_ge i 8 with q | q
        · exact absurd (nI_lt (a := i) (b := 8) q (by decide)) hc
        · omega
      rw [if_neg hc]
      exact ⟨gB M 5, fun j hj => h j (by omega), by rw [sB_self]⟩
theorem z_loop6 : ∀ r i M, i + r = 9 → i ≤ 8 → (∀ j, j < i → gB M 5 j = 0) → ∃ g : Nat → Int32, (∀ j, j < 8 → g j = 0) ∧ f_X6_synchronize_L194_6 r i M = (0, sB M 5 g) := by
  intro r
  induction r with
  | zero => intro i M h1 h2; omega
  | succ r ih =>
    intro i M h1 h2 h
    rw [f_X6_synchronize_L194_6]
    by_cases hc : nI i < (8 : Int32)
    · have hc' : i < 8 := nI_lt8 (n := 8) hc (by omega) (by decide)
      rw [if_pos hc, bnd_e]
      obtain ⟨g, g1, g2⟩ := ih (i + 1) (sB M 5 (upd (gB M 5) i 0)) (by omega) (by omega) (fun j hj => by
        rw [gB_eq]
        by_cases e : j = i
        · rw [e, upd_eq]
        · rw [upd_ne e]; exact h j (by omega))
      exact ⟨g, g1, by rw [g2, sB_sB]⟩
    · have e : i = 8 := by
        rcases Nat.lt_or_ge i 8 with q | q
        · exact absurd (nI_lt (a := i) (b := 8) q (by decide)) hc
        · omega
      rw [if_neg hc]
      exact ⟨gB M 5, fun j hj => h j (by omega), by rw [sB_self]⟩
def yR (M : Mem) (o : Int64) : Mem := if 0 < gI M 4 then if 0 < f_X6_reading M - gL M 3 then sI M 2 (f_X6_held ((gI M 2).toInt64 + o * 1000000 / (f_X6_reading M - gL M 3) / 4)) else M else M
def yT (M : Mem) (o : Int64) : Mem := if 128000 < o then sI (sL (sL M 2 0) 1 (gL M 1 + o * 1000000)) 3 (gI M 3 + 1) else sI (sL (sL M 2 (o * 1000000)) 1 (gL M 1 + 0)) 3 (gI M 3 + 0)
def yC (M : Mem) : Mem := sI M 4 (gI M 4 + 1)
def yL (M : Mem) : Mem := sL (yC M) 3 (f_X6_reading (yC M))
def yE (M : Mem) : Mem := sI (yL M) 5 (gB (yL M) 1 (f_X6_leader (yL M)).toNatClampNeg + 1)
def maj (M : Mem) : Prop := gI (f_X6_select M) 7 < 2 * gI (f_X6_select M) 8
def y3 (M : Mem) : Mem := sI (f_X6_select M) 0 0
def yo (M : Mem) : Int64 := f_X6_combined (y3 M)
theorem syn_no {M : Mem} (h : ¬ maj M) : f_X6_synchronize M = (0, sI (f_X6_select M) 0 1) := by
  unfold maj at h
  simp -implicitDefEqProofs (disch := decide) only [f_X6_synchronize, bnd_e, bnd2_e, if_neg h, ref_e]
theorem syn_yes {M : Mem} (h : maj M) : ∃ g : Nat → Int32, (∀ j, j < 8 → g j = 0) ∧ f_X6_synchronize M = (if 128000 < yo M then 1 else 0, sB (yE (yT (yR (y3 M) (yo M)) (yo M))) 5 g) := by
  unfold maj at h
  have e3 : sI (f_X6_select M) 0 0 = y3 M := by rw [y3]
  have eo : f_X6_combined (y3 M) = yo M := by rw [yo]
  simp -implicitDefEqProofs (disch := decide) only [f_X6_synchronize, bnd_e, bnd2_e, if_pos h, ref_e, e3, eo]
  unfold yE yL yC yT yR
  by_cases c1 : 0 < gI (y3 M) 4
  · rw [if_pos c1]
    by_cases c2 : 0 < f_X6_reading (y3 M) - gL (y3 M) 3
    · rw [if_pos c2]
      by_cases c3 : 128000 < yo M
      · simp -implicitDefEqProofs (disch := decide) only [if_pos c1, if_pos c2, if_pos c3, gL_eq, gL_ne, gI_eq, gI_ne, gB_eq, gB_ne, gJ_eq, gJ_ne, gL_sI, gI_sL, gI_sB, gI_sJ, gL_sB, gL_sJ, gB_sI, gB_sL, gB_sJ, gJ_sI, gJ_sL, gJ_sB]
        exact z_loop1 _ _ _ (by omega) (by omega) (fun j h => absurd h (Nat.not_lt_zero j))
      · simp -implicitDefEqProofs (disch := decide) only [if_pos c1, if_pos c2, if_neg c3, gL_eq, gL_ne, gI_eq, gI_ne, gB_eq, gB_ne, gJ_eq, gJ_ne, gL_sI, gI_sL, gI_sB, gI_sJ, gL_sB, gL_sJ, gB_sI, gB_sL, gB_sJ, gJ_sI, gJ_sL, gJ_sB]
        exact z_loop2 _ _ _ (by omega) (by omega) (fun j h => absurd h (Nat.not_lt_zero j))
    · rw [if_neg c2]
      by_cases c3 : 128000 < yo M
      · simp -implicitDefEqProofs (disch := decide) only [if_pos c1, if_neg c2, if_pos c3, gL_eq, gL_ne, gI_eq, gI_ne, gB_eq, gB_ne, gJ_eq, gJ_ne, gL_sI, gI_sL, gI_sB, gI_sJ, gL_sB, gL_sJ, gB_sI, gB_sL, gB_sJ, gJ_sI, gJ_sL, gJ_sB]
        exact z_loop3 _ _ _ (by omega) (by omega) (fun j h => absurd h (Nat.not_lt_zero j))
      · simp -implicitDefEqProofs (disch := decide) only [if_pos c1, if_neg c2, if_neg c3, gL_eq, gL_ne, gI_eq, gI_ne, gB_eq, gB_ne, gJ_eq, gJ_ne, gL_sI, gI_sL, gI_sB, gI_sJ, gL_sB, gL_sJ, gB_sI, gB_sL, gB_sJ, gJ_sI, gJ_sL, gJ_sB]
        exact z_loop4 _ _ _ (by omega) (by omega) (fun j h => absurd h (Nat.not_lt_zero j))
  · rw [if_neg c1]
    by_cases c3 : 128000 < yo M
    · simp -implicitDefEqProofs (disch := decide) only [if_neg c1, if_pos c3, gL_eq, gL_ne, gI_eq, gI_ne, gB_eq, gB_ne, gJ_eq, gJ_ne, gL_sI, gI_sL, gI_sB, gI_sJ, gL_sB, gL_sJ, gB_sI, gB_sL, gB_sJ, gJ_sI, gJ_sL, gJ_sB]
      exact z_loop5 _ _ _ (by omega) (by omega) (fun j h => absurd h (Nat.not_lt_zero j))
    · simp -implicitDefEqProofs (disch := decide) only [if_neg c1, if_neg c3, gL_eq, gL_ne, gI_eq, gI_ne, gB_eq, gB_ne, gJ_eq, gJ_ne, gL_sI, gI_sL, gI_sB, gI_sJ, gL_sB, gL_sJ, gB_sI, gB_sL, gB_sJ, gJ_sI, gJ_sL, gJ_sB]
      exact z_loop6 _ _ _ (by omega) (by omega) (fun j h => absurd h (Nat.not_lt_zero j))
theorem held_rng {v : Int64} : -500 ≤ (f_X6_held v).toInt ∧ (f_X6_held v).toInt ≤ 500 := by
  have e5 : (500 : Int64).toInt = 500 := by decide
  have e6 : (-500 : Int64).toInt = -500 := by decide
  rw [f_X6_held]
  by_cases c1 : (500 : Int64) < v
  · rw [if_pos c1]; decide
  · rw [if_neg c1]
    by_cases c2 : v < (-500 : Int64)
    · rw [if_pos c2]; decide
    · rw [if_neg c2]
      rw [l_lt] at c1 c2
      rw [e5] at c1
      rw [e6] at c2
      rw [Int64.toInt_toInt32, Int.bmod_eq_of_le (by omega) (by omega)]
      omega
/-! the combined offset lies between the offsets of the survivors -/
theorem w_num {d : Int64} (hd : 0 ≤ d.toInt ∧ d.toInt ≤ 1000000000000) : ((1000000 : Int64) / (d + 1)).toInt ≤ 1000000 ∧ 0 ≤ ((1000000 : Int64) / (d + 1)).toInt := by
  have e1 : (d + 1).toInt = d.toInt + 1 := by rw [l_add, show (1 : Int64).toInt = 1 by decide]; rw [show (1 : Int64).toInt = 1 by decide]; omega
  have e2 : ((1000000 : Int64) / (d + 1)).toInt = 1000000 / (d.toInt + 1) := by rw [l_quo (by decide) (by rw [e1]; omega), e1, mil_i]
  have := quo_le (a := 1000000) (b := d.toInt + 1) (by omega) (by omega)
  rw [e2]
  omega
theorem sum_num {y z : Int64} {w f : Int64} {X : Int} (hw : 1 ≤ w.toInt ∧ w.toInt ≤ 1000000) (hf : -4000000000 ≤ f.toInt ∧ f.toInt ≤ X) (hX : X ≤ 4000000000) (hz : 0 ≤ z.toInt ∧ z.toInt ≤ 8000000) (h1 : -4000000000 * z.toInt ≤ y.toInt) (h2 : y.toInt ≤ X * z.toInt) :
    (y + w * f).toInt = y.toInt + w.toInt * f.toInt ∧ (z + w).toInt = z.toInt + w.toInt ∧ -4000000000 * (z.toInt + w.toInt) ≤ y.toInt + w.toInt * f.toInt ∧ y.toInt + w.toInt * f.toInt ≤ X * (z.toInt + w.toInt) := by
  have m1 : w.toInt * f.toInt ≤ w.toInt * X := Int.mul_le_mul_of_nonneg_left hf.2 (by omega)
  have m2 : w.toInt * (-4000000000) ≤ w.toInt * f.toInt := Int.mul_le_mul_of_nonneg_left hf.1 (by omega)
  have m3 : w.toInt * X ≤ w.toInt * 4000000000 := Int.mul_le_mul_of_nonneg_left hX (by omega)
  have m4 : X * z.toInt ≤ 4000000000 * z.toInt := Int.mul_le_mul_of_nonneg_right hX (by omega)
  have m5 : X * (z.toInt + w.toInt) = X * z.toInt + w.toInt * X := by rw [Int.mul_add, Int.mul_comm X w.toInt]
  have e1 : (w * f).toInt = w.toInt * f.toInt := l_mul (by omega)
  refine ⟨by rw [l_add (by rw [e1]; omega), e1], l_add (by omega), by omega, by rw [m5]; omega⟩
theorem comb_fin {y z : Int64} {X : Int} (hz : 0 < z.toInt) (h1 : -4000000000 * z.toInt ≤ y.toInt) (h2 : y.toInt ≤ X * z.toInt) : -4000000000 ≤ (f_X6_down y z).toInt ∧ (f_X6_down y z).toInt ≤ X := by
  rw [dn_spec hz]
  exact ⟨Int.le_ediv_of_mul_le hz h1, Int.ediv_le_of_le_mul hz h2⟩
theorem comb_loop {M : Mem} {X : Int} (hX : X ≤ 4000000000) (hd : ∀ j, j < 8 → ¬ gB M 7 j = 0 → (0 ≤ (f_X6_distanceOf M j).toInt ∧ (f_X6_distanceOf M j).toInt ≤ 1000000000000) ∧ (-4000000000 ≤ (gJ M 0 (bx M j)).toInt ∧ (gJ M 0 (bx M j)).toInt ≤ X)) (hs : ∃ j, j < 8 ∧ ¬ gB M 7 j = 0) :
    ∀ (r i : Nat) (z y : Int64), i + r = 9 → i ≤ 8 → (0 ≤ z.toInt ∧ z.toInt ≤ 1000000 * (i : Int)) → ((∃ j, j < i ∧ ¬ gB M 7 j = 0) → 0 < z.toInt) → -4000000000 * z.toInt ≤ y.toInt → y.toInt ≤ X * z.toInt →
    -4000000000 ≤ (f_X6_combined_L7 M r i z y).toInt ∧ (f_X6_combined_L7 M r i z y).toInt ≤ X := by
  intro r
  induction r with
  | zero => intro i z y h1 h2; omega
  | succ r ih =>
    intro i z y h1 h2 hz hp ha hb
    rw [f_X6_combined_L7]
    by_cases hc : nI i < (8 : Int32)
    · have hc' : i < 8 := nI_lt8 (n := 8) hc (by omega) (by decide)
      rw [if_pos hc]
      by_cases h7 : gB M 7 i = 0
      · rw [if_pos h7]
        refine ih (i + 1) z y (by omega) (by omega) ⟨hz.1, by omega⟩ (fun ⟨j, hj, hb9⟩ => hp ⟨j, ?_, hb9⟩) ha hb
        by_cases e : j = i
        · rw [e] at hb9; exact absurd h7 hb9
        · omega
      · rw [if_neg h7]
        obtain ⟨d1, d2⟩ := hd i hc' h7
        have hw := w_num d1
        have eb : (f_X6_best M i).toNatClampNeg = bx M i := by rw [bx]
        simp -implicitDefEqProofs (disch := decide) only [bnd_e, bnd2_e, eb]
        have go : ∀ w : Int64, 1 ≤ w.toInt ∧ w.toInt ≤ 1000000 → -4000000000 ≤ (f_X6_combined_L7 M r (i + 1) (z + w) (y + w * gJ M 0 (bx M i))).toInt ∧ (f_X6_combined_L7 M r (i + 1) (z + w) (y + w * gJ M 0 (bx M i))).toInt ≤ X := by
          intro w hw1
          obtain ⟨s1, s2, s3, s4⟩ := sum_num hw1 d2 hX ⟨hz.1, by omega⟩ ha hb
          refine ih (i + 1) _ _ (by omega) (by omega) ⟨by rw [s2]; omega, by rw [s2]; omega⟩ (fun _ => by rw [s2]; omega) (by rw [s1, s2]; exact s3) (by rw [s1, s2]; exact s4)
        by_cases c : (1000000 : Int64) / (f_X6_distanceOf M i + 1) < 1
        · rw [if_pos c]
          exact go 1 (by decide)
        · rw [if_neg c]
          refine go _ ⟨wt_lo c, hw.1⟩
    · have e : i = 8 := by
        rcases Nat.lt_or_ge i 8 with q | q
        · exact absurd (nI_lt (a := i) (b := 8) q (by decide)) hc
        · omega
      rw [if_neg hc, bnd_e]
      subst e
      exact comb_fin (hp hs) ha hb
theorem comb_rng {M : Mem} {X : Int} (hX : X ≤ 4000000000) (hd : ∀ j, j < 8 → ¬ gB M 7 j = 0 → (0 ≤ (f_X6_distanceOf M j).toInt ∧ (f_X6_distanceOf M j).toInt ≤ 1000000000000) ∧ (-4000000000 ≤ (gJ M 0 (bx M j)).toInt ∧ (gJ M 0 (bx M j)).toInt ≤ X)) (hs : ∃ j, j < 8 ∧ ¬ gB M 7 j = 0) :
    -4000000000 ≤ (f_X6_combined M).toInt ∧ (f_X6_combined M).toInt ≤ X := by
  rw [f_X6_combined]
  exact comb_loop hX hd hs _ _ _ _ (by omega) (by omega) ⟨by decide, by decide⟩ (fun ⟨j, hj, _⟩ => absurd hj (Nat.not_lt_zero j)) (by rw [show (0 : Int64).toInt = 0 by decide]; omega) (by rw [show (0 : Int64).toInt = 0 by decide]; omega)
theorem X_num {D n o : Int} (h : D + o * 1000000 ≤ 2000000000000 + 1300 * n) : o ≤ (2000000000000 + 1300 * n - D) / 1000000 := by omega
theorem X_back {D n o : Int} (h : o ≤ (2000000000000 + 1300 * n - D) / 1000000) : D + o * 1000000 ≤ 2000000000000 + 1300 * n := by omega
theorem X_le {D n : Int} (h0 : n ≤ 1000000000000) (h : -1000000000000000 - 1300 * n ≤ D) : (2000000000000 + 1300 * n - D) / 1000000 ≤ 4000000000 := by omega
/-- the combined offset, after a selection with a majority -/
theorem yo_rng {M : Mem} (n : NI M) (w : WFm M) (h : maj M) : -4000000000 ≤ (yo M).toInt ∧ (yo M).toInt ≤ 4000000000 ∧ dev M + (yo M).toInt * 1000000 ≤ 2000000000000 + 1300 * nowI M := by
  obtain ⟨-, hE, hC, hX⟩ := sel_ok n w
  have E3 : EQ M (y3 M) := hE.tr (EQ_sI (Or.inl rfl))
  have hs : ∃ j, j < 8 ∧ ¬ gB (y3 M) 7 j = 0 := by
    have := (DP_of n w).2.1 (f_X6_select M) rfl h
    rw [y3, gB_sI]
    exact this
  have hle := X_le n.1.1.2 n.1.2.1.1
  have H := comb_rng (M := y3 M) (X := (2000000000000 + 1300 * nowI M - dev M) / 1000000) hle (fun j hj hb => by
    rw [y3, gB_sI] at hb
    obtain ⟨c1, c2⟩ := hC j hj hb
    rw [dist_eq E3, bx_eq E3, E3.2.2.2]
    have hB := (best_spec hj (WFk w hj).1).2.2 c2
    have ho := NI_off n c1 hB.1.1 hB.1.2
    have hS := NI_smp n c1 hB.1.1 hB.1.2
    exact ⟨dist_rng n w c1 c2, ho.1, X_num hS.2.1⟩) hs
  unfold yo
  exact ⟨H.1, Int.le_trans H.2 hle, X_back H.2⟩
theorem yE_L {M : Mem} {i : Nat} (h : i ≠ 3) : gL (yE M) i = gL M i := by unfold yE yL yC; rw [gL_sI, gL_ne h, gL_sI]
theorem yE_B {M : Mem} {a : Nat} : gB (yE M) a = gB M a := by unfold yE yL yC; simp -implicitDefEqProofs (disch := decide) only [gL_eq, gL_ne, gI_eq, gI_ne, gB_eq, gB_ne, gJ_eq, gJ_ne, gL_sI, gI_sL, gI_sB, gI_sJ, gL_sB, gL_sJ, gB_sI, gB_sL, gB_sJ, gJ_sI, gJ_sL, gJ_sB]
theorem yE_I {M : Mem} {i : Nat} (h4 : i ≠ 4) (h5 : i ≠ 5) : gI (yE M) i = gI M i := by unfold yE yL yC; rw [gI_ne h5, gI_sL, gI_ne h4]
theorem yT_B {M : Mem} {o : Int64} {a : Nat} : gB (yT M o) a = gB M a := by unfold yT; split <;> simp -implicitDefEqProofs (disch := decide) only [gL_eq, gL_ne, gI_eq, gI_ne, gB_eq, gB_ne, gJ_eq, gJ_ne, gL_sI, gI_sL, gI_sB, gI_sJ, gL_sB, gL_sJ, gB_sI, gB_sL, gB_sJ, gJ_sI, gJ_sL, gJ_sB]
theorem yT_0 {M : Mem} {o : Int64} : gL (yT M o) 0 = gL M 0 := by unfold yT; split <;> simp -implicitDefEqProofs (disch := decide) only [gL_eq, gL_ne, gI_eq, gI_ne, gB_eq, gB_ne, gJ_eq, gJ_ne, gL_sI, gI_sL, gI_sB, gI_sJ, gL_sB, gL_sJ, gB_sI, gB_sL, gB_sJ, gJ_sI, gJ_sL, gJ_sB]
theorem yT_1 {M : Mem} {o : Int64} : gL (yT M o) 1 = if 128000 < o then gL M 1 + o * 1000000 else gL M 1 + 0 := by unfold yT; split <;> simp -implicitDefEqProofs (disch := decide) only [gL_eq, gL_ne, gI_eq, gI_ne, gB_eq, gB_ne, gJ_eq, gJ_ne, gL_sI, gI_sL, gI_sB, gI_sJ, gL_sB, gL_sJ, gB_sI, gB_sL, gB_sJ, gJ_sI, gJ_sL, gJ_sB]
theorem yT_I {M : Mem} {o : Int64} {i : Nat} (h : i ≠ 3) : gI (yT M o) i = gI M i := by
  unfold yT
  split
  · rw [gI_ne h]; simp -implicitDefEqProofs (disch := decide) only [gL_eq, gL_ne, gI_eq, gI_ne, gB_eq, gB_ne, gJ_eq, gJ_ne, gL_sI, gI_sL, gI_sB, gI_sJ, gL_sB, gL_sJ, gB_sI, gB_sL, gB_sJ, gJ_sI, gJ_sL, gJ_sB]
  · rw [gI_ne h]; simp -implicitDefEqProofs (disch := decide) only [gL_eq, gL_ne, gI_eq, gI_ne, gB_eq, gB_ne, gJ_eq, gJ_ne, gL_sI, gI_sL, gI_sB, gI_sJ, gL_sB, gL_sJ, gB_sI, gB_sL, gB_sJ, gJ_sI, gJ_sL, gJ_sB]
theorem yR_B {M : Mem} {o : Int64} {a : Nat} : gB (yR M o) a = gB M a := by unfold yR; repeat' split
                                                                            all_goals first | rfl | exact gB_sI
theorem yR_L {M : Mem} {o : Int64} {a : Nat} : gL (yR M o) a = gL M a := by unfold yR; repeat' split
                                                                            all_goals first | rfl | exact gL_sI
theorem yR_I {M : Mem} {o : Int64} {i : Nat} (h : i ≠ 2) : gI (yR M o) i = gI M i := by unfold yR; repeat' split
                                                                                        all_goals first | rfl | exact gI_ne h
theorem yR_2 {M : Mem} {o : Int64} (h : -500 ≤ (gI M 2).toInt ∧ (gI M 2).toInt ≤ 500) : -500 ≤ (gI (yR M o) 2).toInt ∧ (gI (yR M o) 2).toInt ≤ 500 := by
  unfold yR
  repeat' split
  · rw [gI_eq]; exact held_rng
  · exact h
  · exact h
theorem o_num {p o : Int64} (h1 : -10000000000000000 ≤ p.toInt ∧ p.toInt ≤ 1010000000000000000) (h2 : -4000000000 ≤ o.toInt ∧ o.toInt ≤ 4000000000) : (p + o * 1000000).toInt = p.toInt + o.toInt * 1000000 := by
  have e : (o * 1000000).toInt = o.toInt * 1000000 := by rw [l_mul (by rw [mil_i]; omega), mil_i]
  rw [l_add (by rw [e]; omega), e]
theorem ni_27 {M : Mem} (n : NI M) (w : WFm M) : NI (f_X6_synchronize M).2 := by
  obtain ⟨-, hE, -, -⟩ := sel_ok n w
  have nS : NI (f_X6_select M) := n.eq hE
  by_cases h : maj M
  · obtain ⟨g, g0, e⟩ := syn_yes h
    rw [e]
    have E3 : EQ M (y3 M) := hE.tr (EQ_sI (Or.inl rfl))
    have n3 : NI (y3 M) := n.eq E3
    obtain ⟨o1, o2, o3⟩ := yo_rng n w h
    have L0 : gL (y3 M) 0 = gL M 0 := E3.2.1 0 (by decide) (by decide)
    have L1 : gL (y3 M) 1 = gL M 1 := E3.2.1 1 (by decide) (by decide)
    have F0 : gL (sB (yE (yT (yR (y3 M) (yo M)) (yo M))) 5 g) 0 = gL M 0 := by rw [gL_sB, yE_L (by decide), yT_0, yR_L, L0]
    have F1 : (gL (sB (yE (yT (yR (y3 M) (yo M)) (yo M))) 5 g) 1).toInt = if 128000 < yo M then picI M + (yo M).toInt * 1000000 else picI M := by
      rw [gL_sB, yE_L (by decide), yT_1, yR_L, L1]
      by_cases c : 128000 < yo M
      · rw [if_pos c, if_pos c]; exact o_num (pic_rng n.1) ⟨o1, o2⟩
      · rw [if_neg c, if_neg c, Int64.add_zero]; rfl
    have FI1 : gI (sB (yE (yT (yR (y3 M) (yo M)) (yo M))) 5 g) 1 = gI (y3 M) 1 := by rw [gI_sB, yE_I (by decide) (by decide), yT_I (by decide), yR_I (by decide)]
    have FI2 : gI (sB (yE (yT (yR (y3 M) (yo M)) (yo M))) 5 g) 2 = gI (yR (y3 M) (yo M)) 2 := by rw [gI_sB, yE_I (by decide) (by decide), yT_I (by decide)]
    have FI6 : sn (sB (yE (yT (yR (y3 M) (yo M)) (yo M))) 5 g) = sn (y3 M) := by rw [sn, gI_sB, yE_I (by decide) (by decide), yT_I (by decide), yR_I (by decide), ← sn]
    have FB : ∀ a, a ≠ 5 → gB (sB (yE (yT (yR (y3 M) (yo M)) (yo M))) 5 g) a = gB (y3 M) a := fun a ha => by rw [gB_ne ha, yE_B, yT_B, yR_B]
    refine ⟨?_, fun k hk => ?_⟩
    · obtain ⟨⟨a1, a2⟩, ⟨a3, a4⟩, -, -⟩ := n.1
      unfold okG
      rw [FI1, FI2]
      refine ⟨?_, ?_, n3.1.2.2.1, yR_2 n3.1.2.2.2⟩
      · unfold nowI; rw [F0]; exact n.1.1
      · unfold dev picI
        rw [F1]
        unfold nowI
        rw [F0]
        have hc : 128000 < yo M → 0 < (yo M).toInt := fun c => by
          have := l_lt.mp c
          rw [show (128000 : Int64).toInt = 128000 by decide] at this
          omega
        unfold dev at a3 a4 o3
        unfold nowI at a1 a2 a3 a4 o3
        by_cases c : 128000 < yo M
        · have := hc c
          rw [if_pos c]; omega
        · rw [if_neg c]; exact ⟨a3, a4⟩
    · rw [FI6] at hk
      have a := n3.2 k hk
      have hk8 : k < 8 := Nat.lt_of_lt_of_le hk (by rw [EQ_sn E3]; exact (WFs w).1)
      have k0 : kn (sB (yE (yT (yR (y3 M) (yo M)) (yo M))) 5 g) k = 0 := by rw [kn, gB_eq, g0 k hk8]; decide
      unfold okV at a ⊢
      rw [FB 2 (by decide), FB 3 (by decide), FB 4 (by decide), k0]
      exact ⟨a.1, a.2.1, a.2.2.1, fun t ht => absurd ht (Nat.not_lt_zero t)⟩
  · rw [syn_no h]; exact NI_0 nS
