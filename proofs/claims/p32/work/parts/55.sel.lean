/-! the rows of those that agree; the survivors -/
/-- M1 and M2 differ in row 6 and the high end alone -/
def KA (M1 M2 : Mem) : Prop := EQ M1 M2 ∧ gI M2 0 = gI M1 0 ∧ gI M2 7 = gI M1 7 ∧ gI M2 8 = gI M1 8 ∧ gL M2 4 = gL M1 4 ∧ gB M2 7 = gB M1 7
theorem KA.rf {M : Mem} : KA M M := ⟨EQ.rf, rfl, rfl, rfl, rfl, rfl⟩
theorem KA.tr {A B C : Mem} (h : KA A B) (g : KA B C) : KA A C := ⟨h.1.tr g.1, g.2.1.trans h.2.1, g.2.2.1.trans h.2.2.1, g.2.2.2.1.trans h.2.2.2.1, g.2.2.2.2.1.trans h.2.2.2.2.1, g.2.2.2.2.2.trans h.2.2.2.2.2⟩
theorem KA_6 {M : Mem} {f : Nat → Int32} : KA M (sB M 6 f) := ⟨EQ_sB (by omega), gI_sB, gI_sB, gI_sB, gL_sB, gB_ne (by decide)⟩
theorem KA_5 {M : Mem} {v : Int64} : KA M (sL M 5 v) := ⟨EQ_sL (by omega), gI_sL, gI_sL, gI_sL, gL_ne (by decide), gB_sL⟩
theorem agv_KA {M1 M2 : Mem} (h : KA M1 M2) (i : Nat) : agv M2 i = agv M1 i := by
  unfold agv
  rw [EQ_sn h.1, h.2.2.1, h.2.2.2.2.1, has_eq h.1]
theorem stq_KA {M : Mem} {i : Nat} {y : Int32} : KA M (stq M i y).1 := by
  unfold stq
  split
  · exact KA_6
  · exact KA_6.tr KA_5
theorem stq_6 {M : Mem} {i : Nat} {y : Int32} : gB (stq M i y).1 6 = upd (gB M 6) i (agv M i) := by
  unfold stq
  rcases agv_01 (M := M) (i := i) with h | h
  · rw [if_pos h, h, gB_eq]
  · rw [if_neg (by rw [h]; decide), h, gB_sL, gB_eq]
def hst (M : Mem) : Nat → Int32 × Int64
  | 0 => (1, gL M 5)
  | i + 1 => if agv M i = 0 then hst M i else (0, if (hst M i).1 = 0 then if f_X6_to M i < (hst M i).2 then f_X6_to M i else (hst M i).2 else f_X6_to M i)
theorem agr_loop {M1 : Mem} (hs : sn M1 ≤ 8) : ∀ r i M y, i + r = 9 → i ≤ 8 → KA M1 M → (∀ j, j < i → gB M 6 j = agv M1 j) → (y, gL M 5) = hst M1 i →
    ∃ M2, f_X6_intersect_L130 r i M y = M2 ∧ KA M1 M2 ∧ (∀ j, j < 8 → gB M2 6 j = agv M1 j) ∧ gL M2 5 = (hst M1 8).2 := by
  intro r
  induction r with
  | zero => intro i M y h1 h2; omega
  | succ r ih =>
    intro i M y h1 h2 hK h6 hh
    rw [agr_step (by rw [EQ_sn hK.1]; exact hs) h2]
    by_cases h8 : i < 8
    · rw [if_pos h8]
      refine ih (i + 1) _ _ (by omega) (by omega) (hK.tr stq_KA) (fun j hj => ?_) ?_
      · rw [stq_6]
        by_cases e : j = i
        · rw [e, upd_eq, agv_KA hK]
        · rw [upd_ne e]; exact h6 j (by omega)
      · rw [hst, ← hh]
        unfold stq
        rw [agv_KA hK]
        by_cases ha : agv M1 i = 0
        · rw [if_pos ha, if_pos ha, gL_sB]
        · rw [if_neg ha, if_neg ha, gL_eq, to_eq hK.1]
    · have e : i = 8 := by omega
      rw [if_neg h8]
      subst e
      exact ⟨M, rfl, hK, h6, by rw [← hh]⟩
/-- the whole intersection -/
theorem inter_spec {M : Mem} (w : WFm M) : ∃ M1 : Mem, KE M M1 ∧ gI M1 7 = nI (fld M (0, 0, gL M 4) (sn M)).1 ∧ gI M1 8 = (fld M (0, 0, gL M 4) (sn M)).2.1 ∧ gL M1 4 = (fld M (0, 0, gL M 4) (sn M)).2.2 ∧
    KA M1 (f_X6_intersect M) ∧ (∀ j, j < 8 → gB (f_X6_intersect M) 6 j = agv M1 j) ∧ gL (f_X6_intersect M) 5 = (hst M1 8).2 := by
  have hs := (WFs w).1
  have hE : KE M (sI (sI M 7 0) 8 0) := KE_7.tr KE_8
  obtain ⟨M1, e1, k1, e7, e8, e4⟩ := int_loop (z0 := (0, 0, gL M 4)) w rfl (sn M + 1 - 0) 0 (sI (sI M 7 0) 8 0) (by omega) (by omega) hE (by simp -implicitDefEqProofs (disch := decide) only [gL_eq, gL_ne, gI_eq, gI_ne, gB_eq, gB_ne, gJ_eq, gJ_ne, gL_sI, gI_sL, gI_sB, gI_sJ, gL_sB, gL_sJ, gB_sI, gB_sL, gB_sJ, gJ_sI, gJ_sL, gJ_sB]; rfl) (by simp -implicitDefEqProofs (disch := decide) only [gL_eq, gL_ne, gI_eq, gI_ne, gB_eq, gB_ne, gJ_eq, gJ_ne, gL_sI, gI_sL, gI_sB, gI_sJ, gL_sB, gL_sJ, gB_sI, gB_sL, gB_sJ, gJ_sI, gJ_sL, gJ_sB]; rfl) (by simp -implicitDefEqProofs (disch := decide) only [gL_eq, gL_ne, gI_eq, gI_ne, gB_eq, gB_ne, gJ_eq, gJ_ne, gL_sI, gI_sL, gI_sB, gI_sJ, gL_sB, gL_sJ, gB_sI, gB_sL, gB_sJ, gJ_sI, gJ_sL, gJ_sB]; rfl)
  obtain ⟨M2, f1, f2, f3, f4⟩ := agr_loop (M1 := M1) (by rw [EQ_sn k1.1]; exact hs) (8 + 1 - 0) 0 M1 1 (by omega) (by omega) KA.rf (fun j h => absurd h (Nat.not_lt_zero j)) rfl
  have e : f_X6_intersect M = M2 := by
    rw [f_X6_intersect, bnd_e, bnd_e, e1, f1]
  rw [e]
  exact ⟨M1, k1, e7, e8, e4, f2, f3, f4⟩
/-! what the fold has found -/
theorem own_in {M : Mem} (n : NI M) (w : WFm M) {k : Nat} (hk : k < sn M) (h0 : 0 < kn M k) : ¬ f_X6_has M k (f_X6_from M k) = 0 := by
  have hk8 : k < 8 := Nat.lt_of_lt_of_le hk (WFs w).1
  rw [has_iff (WFk w hk8).1]
  refine ⟨h0, fun q => absurd (l_lt.mp q) (Int.lt_irrefl _), fun q => ?_⟩
  rw [from_e, to_e, l_lt] at q
  obtain ⟨-, -, e3⟩ := best_spec hk8 (WFk w hk8).1
  have hB := e3 h0
  have ho := NI_off n hk hB.1.1 hB.1.2
  have hd := dist_rng n w hk h0
  rw [l_add (by omega), l_sub (by omega)] at q
  omega
theorem fld_ok {M : Mem} (n : NI M) (w : WFm M) {z : Nat × Int32 × Int64} (hz : z.1 = 0) (hz2 : z.2.1 = 0) : ∀ i, i ≤ sn M → ((fld M z i).1 = 0 ∧ (fld M z i).2.1 = 0 ∧ ∀ k, k < i → ¬ 0 < kn M k) ∨ (0 < (fld M z i).1 ∧ ∃ k, k < i ∧ 0 < kn M k ∧ (fld M z i).2.2 = f_X6_from M k ∧ (fld M z i).2.1 = f_X6_covers M (f_X6_from M k) ∧ (0 : Int32) < (fld M z i).2.1)
  | 0, _ => Or.inl ⟨hz, hz2, fun k h => absurd h (Nat.not_lt_zero k)⟩
  | i + 1, hi => by
    have ih := fld_ok n w hz hz2 i (by omega)
    have hs := (WFs w).1
    rw [fld]
    generalize fld M z i = y at ih
    by_cases h0 : 0 < kn M i
    · have hc : (0 : Int32) < f_X6_covers M (f_X6_from M i) := by
        rw [cov_spec hs]
        have := cvN_le M (f_X6_from M i) (sn M)
        exact (k_pos (by omega)).mpr (cvN_pos (own_in n w (by omega) h0) (sn M) (by omega))
      right
      unfold stp
      rw [if_pos h0]
      by_cases b1 : y.2.1 < f_X6_covers M (f_X6_from M i)
      · rw [if_pos b1]
        exact ⟨Nat.succ_pos _, i, by omega, h0, rfl, rfl, hc⟩
      · rw [if_neg b1]
        rcases ih with ⟨a1, a2, a3⟩ | ⟨a1, k, a2, a3, a4, a5, a6⟩
        · exact absurd (by rw [a2]; exact hc) b1
        · by_cases b2 : f_X6_covers M (f_X6_from M i) = y.2.1
          · rw [if_pos b2]
            by_cases b3 : f_X6_from M i < y.2.2
            · rw [if_pos b3]
              exact ⟨Nat.succ_pos _, i, by omega, h0, rfl, rfl, hc⟩
            · rw [if_neg b3]
              exact ⟨Nat.succ_pos _, k, by omega, a3, a4, a5, a6⟩
          · rw [if_neg b2]
            exact ⟨Nat.succ_pos _, k, by omega, a3, a4, a5, a6⟩
    · unfold stp
      rw [if_neg h0]
      rcases ih with ⟨a1, a2, a3⟩ | ⟨a1, k, a2, a3, a4, a5, a6⟩
      · left
        refine ⟨a1, a2, fun k hk => ?_⟩
        by_cases e : k = i
        · rw [e]; exact h0
        · exact a3 k (by omega)
      · right
        exact ⟨a1, k, by omega, a3, a4, a5, a6⟩
/-- after the intersection: no candidates and nobody agrees, or some do; who agrees is a candidate -/
theorem inter_ok {M : Mem} (n : NI M) (w : WFm M) : EQ M (f_X6_intersect M) ∧ (∀ j, j < 8 → ¬ gB (f_X6_intersect M) 6 j = 0 → j < sn M ∧ 0 < kn M j) ∧
    ((gI (f_X6_intersect M) 7 = 0 ∧ gI (f_X6_intersect M) 8 = 0) ∨ ∃ j, j < 8 ∧ ¬ gB (f_X6_intersect M) 6 j = 0) := by
  obtain ⟨M1, k1, e7, e8, e4, kA, e6, -⟩ := inter_spec w
  have hs := (WFs w).1
  refine ⟨k1.1.tr kA.1, fun j hj hb => ?_, ?_⟩
  · rw [e6 j hj] at hb
    unfold agv at hb
    by_cases c1 : j < sn M1
    · rw [if_pos c1] at hb
      have c1' : j < sn M := by rw [EQ_sn k1.1] at c1; exact c1
      refine ⟨c1', ?_⟩
      by_cases c2 : (0 : Int32) < gI M1 7
      · rw [if_pos c2, has_eq k1.1] at hb
        have h3 : ¬ f_X6_has M j (gL M1 4) = 0 := fun q => by rw [if_pos q] at hb; exact hb rfl
        exact ((has_iff (WFk w hj).1).mp h3).1
      · rw [if_neg c2] at hb; exact absurd rfl hb
    · rw [if_neg c1] at hb; exact absurd rfl hb
  · rw [kA.2.2.1, kA.2.2.2.1, e7, e8]
    have hf := fld_ok n w (z := (0, 0, gL M 4)) rfl rfl (sn M) (Nat.le_refl _)
    have hle := fld_1 (M := M) (z := (0, 0, gL M 4)) (sn M)
    rw [e4.symm] at hf
    rcases hf with ⟨a1, a2, a3⟩ | ⟨a1, k, a2, a3, a4, a5, a6⟩
    · left; exact ⟨by rw [a1]; rfl, a2⟩
    · right
      have hk8 : k < 8 := by omega
      refine ⟨k, hk8, ?_⟩
      rw [e6 k hk8]
      unfold agv
      rw [EQ_sn k1.1, if_pos a2, e7, if_pos ((k_pos (by omega)).mpr a1), has_eq k1.1, a4, if_neg (own_in n w a2 a3)]
      decide
