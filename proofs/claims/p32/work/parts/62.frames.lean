/-! the reference: what its other calls leave as it was -/
theorem eq_inter {M : Mem} (w : WFm M) : EQ M (f_X6_intersect M) := by
  obtain ⟨M1, k1, -, -, -, kA, -, -⟩ := inter_spec w
  exact k1.1.tr kA.1
theorem civ_loop {M : Mem} : ∀ r i y, i + r = 22 → i ≤ 21 → ∃ v, f_X6_civil_L7 M r i y = (v, sI M 0 0) := by
  intro r
  induction r with
  | zero => intro i y h1 h2; omega
  | succ r ih =>
    intro i y h1 h2
    rw [f_X6_civil_L7]
    by_cases hc : nI i < (21 : Int32)
    · have hc' : i < 21 := nI_lt8 (n := 21) hc (by omega) (by decide)
      rw [if_pos hc]
      simp -implicitDefEqProofs (disch := decide) only [bnd_e, bnd2_e]
      repeat' split
      all_goals exact ih _ _ (by omega) (by omega)
    · rw [if_neg hc, bnd2_e, finl_e]
      exact ⟨_, rfl⟩
theorem st_9 {M : Mem} : (f_X6_civil M).2 = sI M 0 0 := by
  rw [f_X6_civil, bnd_e]
  obtain ⟨v, e⟩ := civ_loop (M := M) (21 + 1 - 0) 0 (f_X6_reading M) (by omega) (by omega)
  rw [e]
theorem st_14 {M : Mem} {x : Int32} : ∃ v, (f_X6_samples M x).2 = sI M 0 v := by
  by_cases h : f_X6_isServer M x = 0
  · exact ⟨1, by simp -implicitDefEqProofs (disch := decide) only [f_X6_samples, bnd_e, bnd2_e, ref_e, if_pos h]⟩
  · exact ⟨0, by simp -implicitDefEqProofs (disch := decide) only [f_X6_samples, bnd_e, bnd2_e, ref_e, if_neg h]⟩
theorem ns_st {M : Mem} {x : Int32} : ∃ v c, f_X6_noSample M x = (v, sI M 0 c) := by
  by_cases h : f_X6_isServer M x = 0
  · exact ⟨1, 1, ns_no h⟩
  · by_cases h2 : nI (kn M x.toNatClampNeg) = 0
    · exact ⟨1, 2, by simp -implicitDefEqProofs (disch := decide) only [f_X6_noSample, bnd_e, bnd2_e, ref_e, if_neg h, if_pos h2]⟩
    · exact ⟨0, 0, by simp -implicitDefEqProofs (disch := decide) only [f_X6_noSample, bnd_e, bnd2_e, ref_e, if_neg h, if_neg h2]⟩
theorem st_15 {M : Mem} {x : Int32} : ∃ v, (f_X6_offset M x).2 = sI M 0 v := by
  obtain ⟨v, c, e⟩ := ns_st (M := M) (x := x)
  refine ⟨c, ?_⟩
  simp -implicitDefEqProofs (disch := decide) only [f_X6_offset, bnd_e, bnd2_e, e]
  split <;> rfl
theorem st_16 {M : Mem} {x : Int32} : ∃ v, (f_X6_delay M x).2 = sI M 0 v := by
  obtain ⟨v, c, e⟩ := ns_st (M := M) (x := x)
  refine ⟨c, ?_⟩
  simp -implicitDefEqProofs (disch := decide) only [f_X6_delay, bnd_e, bnd2_e, e]
  split <;> rfl
theorem st_17 {M : Mem} {x : Int32} : ∃ v, (f_X6_jitter M x).2 = sI M 0 v := by
  obtain ⟨v, c, e⟩ := ns_st (M := M) (x := x)
  refine ⟨c, ?_⟩
  simp -implicitDefEqProofs (disch := decide) only [f_X6_jitter, bnd_e, bnd2_e, e]
  split <;> rfl
theorem st_18 {M : Mem} {x : Int32} : ∃ v, (f_X6_distance M x).2 = sI M 0 v := by
  obtain ⟨v, c, e⟩ := ns_st (M := M) (x := x)
  refine ⟨c, ?_⟩
  simp -implicitDefEqProofs (disch := decide) only [f_X6_distance, bnd_e, bnd2_e, e]
  split <;> rfl
theorem st_19 {M : Mem} : (f_X6_agreement M).2 = sI (f_X6_intersect M) 0 0 := by simp -implicitDefEqProofs (disch := decide) only [f_X6_agreement, bnd_e, bnd2_e, fine_e]
theorem st_20 {M : Mem} : (f_X6_hasMajority M).2 = f_X6_intersect (sI M 0 0) := by
  simp -implicitDefEqProofs (disch := decide) only [f_X6_hasMajority, bnd_e, bnd2_e]
  split <;> rfl
theorem st_21 {M : Mem} : (f_X6_agreeing M).2 = sI (f_X6_intersect M) 0 0 := by simp -implicitDefEqProofs (disch := decide) only [f_X6_agreeing, bnd_e, bnd2_e, fine_e]
theorem st_22 {M : Mem} : ∃ v, (f_X6_low M).2 = sI (f_X6_intersect M) 0 v := by
  by_cases h : gI (f_X6_intersect M) 7 = 0
  · exact ⟨1, by simp -implicitDefEqProofs (disch := decide) only [f_X6_low, bnd_e, bnd2_e, ref_e, if_pos h]⟩
  · exact ⟨0, by simp -implicitDefEqProofs (disch := decide) only [f_X6_low, bnd_e, bnd2_e, ref_e, if_neg h]⟩
theorem st_23 {M : Mem} : ∃ v, (f_X6_high M).2 = sI (f_X6_intersect M) 0 v := by
  by_cases h : gI (f_X6_intersect M) 7 = 0
  · exact ⟨1, by simp -implicitDefEqProofs (disch := decide) only [f_X6_high, bnd_e, bnd2_e, ref_e, if_pos h]⟩
  · exact ⟨0, by simp -implicitDefEqProofs (disch := decide) only [f_X6_high, bnd_e, bnd2_e, ref_e, if_neg h]⟩
theorem st_24 {M : Mem} : (f_X6_survivors M).2 = sI (f_X6_select M) 0 0 := by simp -implicitDefEqProofs (disch := decide) only [f_X6_survivors, bnd_e, bnd2_e, fine_e]
theorem st_25 {M : Mem} : ∃ v, (f_X6_combinedOffset M).2 = sI (f_X6_select M) 0 v := by
  by_cases h : gI (f_X6_select M) 7 = 0
  · exact ⟨1, by simp -implicitDefEqProofs (disch := decide) only [f_X6_combinedOffset, bnd_e, bnd2_e, ref_e, if_pos h]⟩
  · exact ⟨0, by simp -implicitDefEqProofs (disch := decide) only [f_X6_combinedOffset, bnd_e, bnd2_e, ref_e, if_neg h]⟩
theorem st_26 {M : Mem} : (f_X6_peer M).2 = sI (f_X6_select M) 0 0 := by simp -implicitDefEqProofs (disch := decide) only [f_X6_peer, bnd_e, bnd2_e, fine_e]
theorem EQ_0 {M : Mem} {v : Int32} : EQ M (sI M 0 v) := EQ_sI (Or.inl rfl)
theorem me_3 {M : Mem} : EQ M (f_X6_trueTime M).2 := by rw [st_3]; exact EQ_0
theorem me_4 {M : Mem} : EQ M (f_X6_clock M).2 := by rw [st_4]; exact EQ_0
theorem me_5 {M : Mem} : EQ M (f_X6_error M).2 := by rw [st_5]; exact EQ_0
theorem me_6 {M : Mem} : EQ M (f_X6_pendingSlew M).2 := by rw [st_6]; exact EQ_0
theorem me_7 {M : Mem} : EQ M (f_X6_correction M).2 := by rw [st_7]; exact EQ_0
theorem me_9 {M : Mem} : EQ M (f_X6_civil M).2 := by rw [st_9]; exact EQ_0
theorem me_13 {M : Mem} : EQ M (f_X6_servers M).2 := by rw [st_13]; exact EQ_0
theorem me_14 {M : Mem} {x : Int32} : EQ M (f_X6_samples M x).2 := by obtain ⟨v, e⟩ := st_14 (M := M) (x := x); rw [e]; exact EQ_0
theorem me_15 {M : Mem} {x : Int32} : EQ M (f_X6_offset M x).2 := by obtain ⟨v, e⟩ := st_15 (M := M) (x := x); rw [e]; exact EQ_0
theorem me_16 {M : Mem} {x : Int32} : EQ M (f_X6_delay M x).2 := by obtain ⟨v, e⟩ := st_16 (M := M) (x := x); rw [e]; exact EQ_0
theorem me_17 {M : Mem} {x : Int32} : EQ M (f_X6_jitter M x).2 := by obtain ⟨v, e⟩ := st_17 (M := M) (x := x); rw [e]; exact EQ_0
theorem me_18 {M : Mem} {x : Int32} : EQ M (f_X6_distance M x).2 := by obtain ⟨v, e⟩ := st_18 (M := M) (x := x); rw [e]; exact EQ_0
theorem me_19 {M : Mem} (w : WFm M) : EQ M (f_X6_agreement M).2 := by rw [st_19]; exact (eq_inter w).tr EQ_0
theorem me_20 {M : Mem} (w : WFm M) : EQ M (f_X6_hasMajority M).2 := by rw [st_20]; exact EQ_0.tr (eq_inter (WFm_sI w (by decide)))
theorem me_21 {M : Mem} (w : WFm M) : EQ M (f_X6_agreeing M).2 := by rw [st_21]; exact (eq_inter w).tr EQ_0
theorem me_22 {M : Mem} (w : WFm M) : EQ M (f_X6_low M).2 := by obtain ⟨v, e⟩ := st_22 (M := M); rw [e]; exact (eq_inter w).tr EQ_0
theorem me_23 {M : Mem} (w : WFm M) : EQ M (f_X6_high M).2 := by obtain ⟨v, e⟩ := st_23 (M := M); rw [e]; exact (eq_inter w).tr EQ_0
theorem me_24 {M : Mem} (n : NI M) (w : WFm M) : EQ M (f_X6_survivors M).2 := by rw [st_24]; exact (sel_ok n w).2.1.tr EQ_0
theorem me_25 {M : Mem} (n : NI M) (w : WFm M) : EQ M (f_X6_combinedOffset M).2 := by obtain ⟨v, e⟩ := st_25 (M := M); rw [e]; exact (sel_ok n w).2.1.tr EQ_0
theorem me_26 {M : Mem} (n : NI M) (w : WFm M) : EQ M (f_X6_peer M).2 := by rw [st_26]; exact (sel_ok n w).2.1.tr EQ_0
theorem me_28 {M : Mem} : EQ M (f_X6_stratum M).2 := by rw [st_28]; exact EQ_0
theorem me_29 {M : Mem} : EQ M (f_X6_steps M).2 := by rw [st_29]; exact EQ_0
theorem me_30 {M : Mem} : EQ M (f_X6_synchronizations M).2 := by rw [st_30]; exact EQ_0
/-! the class: what a selection leaves as it was -/
def EC (M M' : Mem) : Prop := (∀ i, i ≠ 8 → i ≠ 9 → i ≠ 10 → gI M' i = gI M i) ∧ (∀ i, i ≠ 4 → i ≠ 5 → gL M' i = gL M i) ∧ (∀ r, 4 ≤ r → gJ M' r = gJ M r)
theorem EC.rf {M : Mem} : EC M M := ⟨fun _ _ _ _ => rfl, fun _ _ _ => rfl, fun _ _ => rfl⟩
theorem EC.tr {A B C : Mem} (h : EC A B) (g : EC B C) : EC A C := ⟨fun i a b c => (g.1 i a b c).trans (h.1 i a b c), fun i a b => (g.2.1 i a b).trans (h.2.1 i a b), fun r a => (g.2.2 r a).trans (h.2.2 r a)⟩
theorem EC_sI {M : Mem} {i : Nat} {v : Int32} (h : i = 8 ∨ i = 9 ∨ i = 10) : EC M (sI M i v) := ⟨fun j a b c => gI_ne (by omega), fun _ _ _ => gL_sI, fun _ _ => gJ_sI⟩
theorem EC_sL {M : Mem} {i : Nat} {v : Int64} (h : i = 4 ∨ i = 5) : EC M (sL M i v) := ⟨fun _ _ _ _ => gI_sL, fun j a b => gL_ne (by omega), fun _ _ => gJ_sL⟩
theorem EC_sJ {M : Mem} {r : Nat} {f : Nat → Int64} (h : r < 4) : EC M (sJ M r f) := ⟨fun _ _ _ _ => gI_sJ, fun _ _ _ => gL_sJ, fun q hq => gJ_ne (by omega)⟩
theorem EC_put {M : Mem} {r : Nat} {p : Int32} {v : Int64} (h : r < 4) : EC M (f_X2_put M r p v) := by
  simp -implicitDefEqProofs (disch := decide) only [f_X2_put, bnd_e, bnd2_e]
  repeat' split
  · exact EC.rf
  · exact EC_sJ h
  · exact EC.rf
theorem EC_clear {M : Mem} : EC M (f_X3_clear M) := by
  simp -implicitDefEqProofs (disch := decide) only [f_X3_clear, bnd_e, bnd2_e]
  exact ((((EC_sI (by omega)).tr (EC_sI (by omega))).tr (EC_sI (by omega))).tr (EC_sL (by omega))).tr (EC_sL (by omega))
theorem EC_enter {M : Mem} {p : Int32} {k : Nat} {t : Int64} : EC M (f_X3_enter M p k t) := by
  simp -implicitDefEqProofs (disch := decide) only [f_X3_enter, bnd_e, bnd2_e]
  exact ((((EC_put (by omega)).tr (EC_put (by omega))).tr (EC_put (by omega))).tr (EC_put (by omega))).tr (EC_sI (by omega))
theorem EC_try {M : Mem} {p : Int64} : EC M (f_X3_tryLowEnd M p) := by
  simp -implicitDefEqProofs (disch := decide) only [f_X3_tryLowEnd, bnd_e, bnd2_e]
  repeat' split
  · exact (EC_sI (by omega)).tr (EC_sL (by omega))
  · exact (EC_sI (by omega)).tr (EC_sL (by omega))
  · exact EC.rf
  · exact EC.rf
theorem EC_int : ∀ r i (M : Mem), EC M (f_X3_intersect_L2 r i M) := by
  intro r
  induction r with
  | zero => intro i M; rw [f_X3_intersect_L2]; exact EC.rf
  | succ r ih =>
    intro i M
    rw [f_X3_intersect_L2]
    simp -implicitDefEqProofs (disch := decide) only [bnd_e, bnd2_e]
    repeat' split
    · exact ih _ _
    · exact EC_try.tr (ih _ _)
    · exact EC_sL (by omega)
theorem EC_clu : ∀ r i (M : Mem), EC M (f_X3_cluster_L10 r i M) := by
  intro r
  induction r with
  | zero => intro i M; rw [f_X3_cluster_L10]; exact EC.rf
  | succ r ih =>
    intro i M
    rw [f_X3_cluster_L10]
    simp -implicitDefEqProofs (disch := decide) only [bnd_e, bnd2_e]
    repeat' split
    · exact (EC_sI (by omega)).tr (ih _ _)
    · exact EC.rf
    · exact EC.rf
    · exact EC.rf
theorem EC_ic {M : Mem} : EC M (f_X3_cluster (f_X3_intersect M)) := by
  rw [f_X3_cluster, f_X3_intersect, bnd_e]
  exact ((EC_int _ _ _).tr (EC_sI (by omega))).tr (EC_clu _ _ _)
theorem EC_sel : ∀ r i (t : Int64) (M : Mem), EC M (f_X5_select_L17 t r i M) := by
  intro r
  induction r with
  | zero => intro i t M; rw [f_X5_select_L17]; exact EC.rf
  | succ r ih =>
    intro i t M
    rw [f_X5_select_L17]
    by_cases c1 : nI i < gI M 0
    · rw [if_pos c1]
      by_cases c2 : nI i < (8 : Int32)
      · rw [if_pos c2]
        rcases ho : f_X5_serverOrNull M (nI i) with _ | k
        · rw [opt_none rfl]; exact ih _ _ _
        · rw [opt_some rfl]
          simp -implicitDefEqProofs (disch := decide) only [bnd_e, bnd2_e]
          split
          · exact EC_enter.tr (ih _ _ _)
          · exact ih _ _ _
      · rw [if_neg c2]; simp -implicitDefEqProofs (disch := decide) only [bnd_e, bnd2_e]; exact EC_ic
    · rw [if_neg c1]; simp -implicitDefEqProofs (disch := decide) only [bnd_e, bnd2_e]; exact EC_ic
theorem EC_select {M : Mem} : EC M (f_X5_select M) := by
  rw [f_X5_select, bnd_e, bnd_e]
  exact EC_clear.tr (EC_sel _ _ _ _)
