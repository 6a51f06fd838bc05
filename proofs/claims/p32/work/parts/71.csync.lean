/-! synchronize: both do the same, but for the stratum -/
theorem RR_s1 {Mc Mm : Mem} {v : Int32} (h : RR Mc Mm) : RR (sI Mc 1 v) Mm := by
  refine ⟨?_, RLp_of h.2.1 (gI_ne (by decide)) (gI_ne (by decide)) rfl, fun k hk => VS_mv (h.2.2 k hk) (fun i hi => gI_ne (by omega)) (fun _ _ => gL_sI) (fun _ _ => gJ_sI) (fun _ _ _ => rfl) (fun _ => rfl)⟩
  obtain ⟨a1, a2, a3, a4, a5, a6, a7, a8, a9⟩ := h.1
  unfold RS
  simp -implicitDefEqProofs (disch := decide) only [gL_eq, gL_ne, gI_eq, gI_ne, gB_eq, gB_ne, gJ_eq, gJ_ne, gL_sI, gI_sL, gI_sB, gI_sJ, gL_sB, gL_sJ, gB_sI, gB_sL, gB_sJ, gJ_sI, gJ_sL, gJ_sB, a1, a2, a3, a4, a5, a6, a7, a8, a9, and_self]
theorem held_eq {v : Int64} : f_X6_held v = (if (if v < 500 then v else 500) < (-500 : Int64) then (-500 : Int64) else (if v < 500 then v else 500)).toInt32 := by
  have e5 : (500 : Int64).toInt = 500 := by decide
  have e6 : (-500 : Int64).toInt = -500 := by decide
  rw [f_X6_held]
  by_cases c1 : v < 500
  · have c1' := l_lt.mp c1
    rw [if_pos c1, if_neg (fun q => by have := l_lt.mp q; omega)]
    by_cases c2 : v < (-500 : Int64)
    · rw [if_pos c2, if_pos c2]; decide
    · rw [if_neg c2, if_neg c2]
  · rw [if_neg c1, if_neg (show ¬ (500 : Int64) < -500 by decide)]
    by_cases c2 : (500 : Int64) < v
    · rw [if_pos c2]; decide
    · have ev : v = 500 := l_eq (by
        have a : ¬ v.toInt < (500 : Int64).toInt := fun q => c1 (l_lt.mpr q)
        have b : ¬ (500 : Int64).toInt < v.toInt := fun q => c2 (l_lt.mpr q)
        omega)
      rw [ev]; decide
theorem RR_rate {Mc Mm : Mem} {o : Int64} (h : RR Mc Mm) : RR (f_X5_correctRate Mc o) (yR Mm o) := by
  have eS : gI Mc 3 = gI Mm 4 := h.1.2.2.2.2.2.2.1
  have eL : gL Mc 1 = gL Mm 3 := h.1.2.2.2.2.2.2.2.1
  have e5 : gI Mc 5 = gI Mm 2 := h.1.2.2.2.2.1
  unfold yR
  simp -implicitDefEqProofs (disch := decide) only [f_X5_correctRate, f_X1_addCorrection, bnd_e, bnd2_e, RS_rd h.1, eS, eL, e5]
  by_cases c1 : 0 < gI Mm 4
  · rw [if_pos c1, if_pos c1]
    by_cases c2 : 0 < f_X6_reading Mm - gL Mm 3
    · rw [if_pos c2, if_pos c2, ← held_eq]
      refine ⟨?_, RLp_of h.2.1 (gI_ne (by decide)) (gI_ne (by decide)) gB_sI, fun k hk => VS_mv (h.2.2 k (by rw [sn_sI0 (by decide)] at hk; exact hk)) (fun i hi => gI_ne (by omega)) (fun _ _ => gL_sI) (fun _ _ => gJ_sI) (fun _ _ _ => gB_sI) (fun _ => gJ_sI)⟩
      obtain ⟨a1, a2, a3, a4, a5, a6, a7, a8, a9⟩ := h.1
      unfold RS
      simp -implicitDefEqProofs (disch := decide) only [gL_eq, gL_ne, gI_eq, gI_ne, gB_eq, gB_ne, gJ_eq, gJ_ne, gL_sI, gI_sL, gI_sB, gI_sJ, gL_sB, gL_sJ, gB_sI, gB_sL, gB_sJ, gJ_sI, gJ_sL, gJ_sB, a1, a2, a3, a4, a6, a7, a8, a9, and_self]
    · rw [if_neg c2, if_neg c2]; exact h
  · rw [if_neg c1, if_neg c1]; exact h
theorem RR_time {Mc Mm : Mem} {o : Int64} (h : RR Mc Mm) : RR (f_X5_correctTime Mc o).2 (yT Mm o) ∧ (f_X5_correctTime Mc o).1 = if 128000 < o then 1 else 0 := by
  obtain ⟨a1, a2, a3, a4, a5, a6, a7, a8, a9⟩ := h.1
  unfold yT
  simp -implicitDefEqProofs (disch := decide) only [f_X5_correctTime, f_X1_step, f_X1_slew, bnd_e, bnd2_e]
  by_cases c : 128000 < o
  · rw [if_pos c, if_pos c, if_pos c]
    refine ⟨⟨?_, RLp_of h.2.1 ?_ ?_ ?_, fun k hk => VS_mv (h.2.2 k ?_) (fun i hi => ?_) (fun i hi => ?_) (fun _ _ => ?_) (fun _ _ _ => ?_) (fun _ => ?_)⟩, rfl⟩
    · unfold RS; simp -implicitDefEqProofs (disch := decide) only [gL_eq, gL_ne, gI_eq, gI_ne, gB_eq, gB_ne, gJ_eq, gJ_ne, gL_sI, gI_sL, gI_sB, gI_sJ, gL_sB, gL_sJ, gB_sI, gB_sL, gB_sJ, gJ_sI, gJ_sL, gJ_sB, a1, a2, a3, a4, a5, a6, a7, a8, a9, and_self]
    · simp -implicitDefEqProofs (disch := decide) only [gL_eq, gL_ne, gI_eq, gI_ne, gB_eq, gB_ne, gJ_eq, gJ_ne, gL_sI, gI_sL, gI_sB, gI_sJ, gL_sB, gL_sJ, gB_sI, gB_sL, gB_sJ, gJ_sI, gJ_sL, gJ_sB]
    · simp -implicitDefEqProofs (disch := decide) only [gL_eq, gL_ne, gI_eq, gI_ne, gB_eq, gB_ne, gJ_eq, gJ_ne, gL_sI, gI_sL, gI_sB, gI_sJ, gL_sB, gL_sJ, gB_sI, gB_sL, gB_sJ, gJ_sI, gJ_sL, gJ_sB]
    · simp -implicitDefEqProofs (disch := decide) only [gL_eq, gL_ne, gI_eq, gI_ne, gB_eq, gB_ne, gJ_eq, gJ_ne, gL_sI, gI_sL, gI_sB, gI_sJ, gL_sB, gL_sJ, gB_sI, gB_sL, gB_sJ, gJ_sI, gJ_sL, gJ_sB]
    · rw [sn_sI0 (by decide), sn_sL, sn_sL] at hk; exact hk
    · rw [gI_ne (by omega)]; simp -implicitDefEqProofs (disch := decide) only [gL_eq, gL_ne, gI_eq, gI_ne, gB_eq, gB_ne, gJ_eq, gJ_ne, gL_sI, gI_sL, gI_sB, gI_sJ, gL_sB, gL_sJ, gB_sI, gB_sL, gB_sJ, gJ_sI, gJ_sL, gJ_sB]
    · rw [gL_sI, gL_ne (by omega), gL_ne (by omega)]
    · simp -implicitDefEqProofs (disch := decide) only [gL_eq, gL_ne, gI_eq, gI_ne, gB_eq, gB_ne, gJ_eq, gJ_ne, gL_sI, gI_sL, gI_sB, gI_sJ, gL_sB, gL_sJ, gB_sI, gB_sL, gB_sJ, gJ_sI, gJ_sL, gJ_sB]
    · simp -implicitDefEqProofs (disch := decide) only [gL_eq, gL_ne, gI_eq, gI_ne, gB_eq, gB_ne, gJ_eq, gJ_ne, gL_sI, gI_sL, gI_sB, gI_sJ, gL_sB, gL_sJ, gB_sI, gB_sL, gB_sJ, gJ_sI, gJ_sL, gJ_sB]
    · simp -implicitDefEqProofs (disch := decide) only [gL_eq, gL_ne, gI_eq, gI_ne, gB_eq, gB_ne, gJ_eq, gJ_ne, gL_sI, gI_sL, gI_sB, gI_sJ, gL_sB, gL_sJ, gB_sI, gB_sL, gB_sJ, gJ_sI, gJ_sL, gJ_sB]
  · rw [if_neg c, if_neg c, if_neg c]
    refine ⟨⟨?_, RLp_of h.2.1 ?_ ?_ ?_, fun k hk => VS_mv (h.2.2 k ?_) (fun i hi => ?_) (fun i hi => ?_) (fun _ _ => ?_) (fun _ _ _ => ?_) (fun _ => ?_)⟩, rfl⟩
    · unfold RS; simp -implicitDefEqProofs (disch := decide) only [gL_eq, gL_ne, gI_eq, gI_ne, gB_eq, gB_ne, gJ_eq, gJ_ne, gL_sI, gI_sL, gI_sB, gI_sJ, gL_sB, gL_sJ, gB_sI, gB_sL, gB_sJ, gJ_sI, gJ_sL, gJ_sB, a1, a2, a3, a4, a5, a6, a7, a8, a9, and_self, Int64.add_zero, Int32.add_zero]
    · simp -implicitDefEqProofs (disch := decide) only [gL_eq, gL_ne, gI_eq, gI_ne, gB_eq, gB_ne, gJ_eq, gJ_ne, gL_sI, gI_sL, gI_sB, gI_sJ, gL_sB, gL_sJ, gB_sI, gB_sL, gB_sJ, gJ_sI, gJ_sL, gJ_sB]
    · simp -implicitDefEqProofs (disch := decide) only [gL_eq, gL_ne, gI_eq, gI_ne, gB_eq, gB_ne, gJ_eq, gJ_ne, gL_sI, gI_sL, gI_sB, gI_sJ, gL_sB, gL_sJ, gB_sI, gB_sL, gB_sJ, gJ_sI, gJ_sL, gJ_sB]
    · simp -implicitDefEqProofs (disch := decide) only [gL_eq, gL_ne, gI_eq, gI_ne, gB_eq, gB_ne, gJ_eq, gJ_ne, gL_sI, gI_sL, gI_sB, gI_sJ, gL_sB, gL_sJ, gB_sI, gB_sL, gB_sJ, gJ_sI, gJ_sL, gJ_sB]
    · rw [sn_sI0 (by decide), sn_sL, sn_sL] at hk; exact hk
    · simp -implicitDefEqProofs (disch := decide) only [gL_eq, gL_ne, gI_eq, gI_ne, gB_eq, gB_ne, gJ_eq, gJ_ne, gL_sI, gI_sL, gI_sB, gI_sJ, gL_sB, gL_sJ, gB_sI, gB_sL, gB_sJ, gJ_sI, gJ_sL, gJ_sB]
    · rw [gL_ne (by omega)]
    · simp -implicitDefEqProofs (disch := decide) only [gL_eq, gL_ne, gI_eq, gI_ne, gB_eq, gB_ne, gJ_eq, gJ_ne, gL_sI, gI_sL, gI_sB, gI_sJ, gL_sB, gL_sJ, gB_sI, gB_sL, gB_sJ, gJ_sI, gJ_sL, gJ_sB]
    · simp -implicitDefEqProofs (disch := decide) only [gL_eq, gL_ne, gI_eq, gI_ne, gB_eq, gB_ne, gJ_eq, gJ_ne, gL_sI, gI_sL, gI_sB, gI_sJ, gL_sB, gL_sJ, gB_sI, gB_sL, gB_sJ, gJ_sI, gJ_sL, gJ_sB]
    · simp -implicitDefEqProofs (disch := decide) only [gL_eq, gL_ne, gI_eq, gI_ne, gB_eq, gB_ne, gJ_eq, gJ_ne, gL_sI, gI_sL, gI_sB, gI_sJ, gL_sB, gL_sJ, gB_sI, gB_sL, gB_sJ, gJ_sI, gJ_sL, gJ_sB]
theorem RR_peer {Mc Mm : Mem} (h : RR Mc Mm) : RR (f_X5_takeStratumOfPeer Mc) Mm := by
  simp -implicitDefEqProofs (disch := decide) only [f_X5_takeStratumOfPeer, bnd_e, bnd2_e]
  rcases ho : f_X5_serverOrNull (f_X5_select Mc) (f_X3_preferred (f_X5_select Mc)) with _ | k
  · rw [opt_none rfl]; exact RR_c h EC_select
  · rw [opt_some rfl]; exact RR_s1 (RR_c h EC_select)
/-- all samples forgotten -/
def FG (M M' : Mem) (i : Nat) : Prop := (∀ q, q < 11 → gI M' q = gI M q) ∧ (∀ k, gI M' (13 + 4 * k) = gI M (13 + 4 * k) ∧ gI M' (14 + 4 * k) = gI M (14 + 4 * k)) ∧ (∀ q, gL M' q = gL M q) ∧ (∀ r, gJ M' r = gJ M r) ∧ ∀ k, k < i → gI M' (11 + 4 * k) = 0
theorem fg_loop {M0 : Mem} : ∀ r i M, i + r = 9 → i ≤ 8 → FG M0 M i → FG M0 (f_X5_forgetSamples_L2 r i M) 8 := by
  intro r
  induction r with
  | zero => intro i M h1 h2; omega
  | succ r ih =>
    intro i M h1 h2 h
    rw [f_X5_forgetSamples_L2]
    by_cases hc : i < 8
    · rw [if_pos (show nI i < 8 from nI_lt (b := 8) hc (by decide)), bnd_e]
      refine ih (i + 1) _ (by omega) (by omega) ?_
      obtain ⟨h1, h2, h3, h4, h5⟩ := h
      simp -implicitDefEqProofs (disch := decide) only [f_X4_forget, bnd_e, bnd2_e]
      refine ⟨fun q hq => ?_, fun k => ⟨?_, ?_⟩, fun q => ?_, fun r => ?_, fun k hk => ?_⟩
      · rw [gI_ne (by omega), gI_ne (by omega)]; exact h1 q hq
      · rw [gI_ne (by omega), gI_ne (by omega)]; exact (h2 k).1
      · rw [gI_ne (by omega), gI_ne (by omega)]; exact (h2 k).2
      · simp -implicitDefEqProofs (disch := decide) only [gL_eq, gL_ne, gI_eq, gI_ne, gB_eq, gB_ne, gJ_eq, gJ_ne, gL_sI, gI_sL, gI_sB, gI_sJ, gL_sB, gL_sJ, gB_sI, gB_sL, gB_sJ, gJ_sI, gJ_sL, gJ_sB]; exact h3 q
      · simp -implicitDefEqProofs (disch := decide) only [gL_eq, gL_ne, gI_eq, gI_ne, gB_eq, gB_ne, gJ_eq, gJ_ne, gL_sI, gI_sL, gI_sB, gI_sJ, gL_sB, gL_sJ, gB_sI, gB_sL, gB_sJ, gJ_sI, gJ_sL, gJ_sB]; exact h4 r
      · rw [gI_ne (by omega)]
        by_cases e : k = i
        · rw [e, gI_eq]
        · rw [gI_ne (by omega)]; exact h5 k (by omega)
    · have e : i = 8 := by omega
      subst e
      rw [if_neg (by decide)]
      exact h
theorem fg_e {M : Mem} : FG M (f_X5_forgetSamples M) 8 := by
  rw [f_X5_forgetSamples]
  exact fg_loop _ _ _ (by omega) (by omega) ⟨fun _ _ => rfl, fun _ => ⟨rfl, rfl⟩, fun _ => rfl, fun _ => rfl, fun k hk => absurd hk (Nat.not_lt_zero k)⟩
/-- the end: the reading behind, one synchronization more, no samples -/
theorem RR_end {Mc T : Mem} {g : Nat → Int32} (w8 : sn T ≤ 8) (h : RR Mc T) (g0 : ∀ j, j < 8 → g j = 0) :
    RR (sI (sL (f_X5_forgetSamples Mc) 1 (f_X1_reading (f_X5_forgetSamples Mc))) 3 (gI (sL (f_X5_forgetSamples Mc) 1 (f_X1_reading (f_X5_forgetSamples Mc))) 3 + 1)) (sB (yE T) 5 g) := by
  obtain ⟨f1, f2, f3, f4, f5⟩ := fg_e (M := Mc)
  obtain ⟨a1, a2, a3, a4, a5, a6, a7, a8, a9⟩ := h.1
  have er : f_X1_reading (f_X5_forgetSamples Mc) = f_X6_reading T := rd_eq (by rw [f3]; exact a2)
  have eC : f_X6_reading (yC T) = f_X6_reading T := by rw [yC, rd_sI]
  have sT : sn (sB (yE T) 5 g) = sn T := by rw [sn_sB, sn, yE_I (by decide) (by decide), ← sn]
  refine ⟨?_, RLp_of h.2.1 ?_ ?_ ?_, fun k hk => ?_⟩
  · rw [er]
    unfold RS yE yL
    rw [eC]
    unfold yC
    simp -implicitDefEqProofs (disch := decide) only [gL_eq, gL_ne, gI_eq, gI_ne, gB_eq, gB_ne, gJ_eq, gJ_ne, gL_sI, gI_sL, gI_sB, gI_sJ, gL_sB, gL_sJ, gB_sI, gB_sL, gB_sJ, gJ_sI, gJ_sL, gJ_sB]
    rw [f3, f3, f3, f1 4 (by omega), f1 5 (by omega), f1 2 (by omega), f1 3 (by omega), f1 0 (by omega), a7]
    exact ⟨a1, a2, a3, a4, a5, a6, by trivial, by trivial, a9⟩
  · rw [gI_ne (by decide), gI_sL]; exact f1 6 (by omega)
  · rw [gI_ne (by decide), gI_sL]; exact f1 7 (by omega)
  · rw [gB_ne (by decide), yE_B]
  · rw [sT] at hk
    have hk8 : k < 8 := by omega
    obtain ⟨v1, v2, v6, v7, -, -, -⟩ := h.2.2 k hk
    have k0 : kn (sB (yE T) 5 g) k = 0 := by rw [kn, gB_eq, g0 k hk8]; decide
    refine ⟨?_, ?_, ?_, ?_, ?_, fun t ht => ?_, fun h0 => ?_⟩
    · rw [gI_ne (by omega), gI_sL, (f2 k).1, gB_ne (by decide), yE_B]; exact v1
    · rw [gI_ne (by omega), gI_sL, (f2 k).2, gB_ne (by decide), yE_B]; exact v2
    · rw [gL_sI, gL_ne (by omega), f3, gB_ne (by decide), yE_B]; exact v6
    · rw [gL_sI, gL_ne (by omega), f3, gB_ne (by decide), yE_B]; exact v7
    · rw [gI_ne (by omega), gI_sL, f5 k hk8, k0]; rfl
    · rw [k0] at ht; exact absurd ht (Nat.not_lt_zero t)
    · rw [k0] at h0; exact absurd h0 (Nat.lt_irrefl 0)
theorem sn_y {M : Mem} {o : Int64} : sn (yT (yR M o) o) = sn M := by rw [sn, yT_I (by decide), yR_I (by decide), ← sn]
theorem sy_cases {Mc Mm : Mem} (n : NI Mm) (w : WFm Mm) (h : RR Mc Mm) :
    (f_X5_synchronize Mc = (2, 0, f_X5_select Mc) ∧ f_X6_synchronize Mm = (0, sI (f_X6_select Mm) 0 1)) ∨
    ∃ v Mc' Mm', f_X5_synchronize Mc = (0, v, Mc') ∧ f_X6_synchronize Mm = (v, Mm') ∧ RR Mc' Mm' ∧ gI Mm' 0 = 0 := by
  have hSEL := sel_both n w h
  have hm := maj_e hSEL
  obtain ⟨E5, E6, hS, -⟩ := hSEL
  by_cases c : maj Mm
  · right
    obtain ⟨g, g0, e⟩ := syn_yes c
    have c' : gI (f_X6_select Mm) 7 < 2 * gI (f_X6_select Mm) 8 := c
    rw [if_pos c'] at hm
    have hs : ∃ j, j < 8 ∧ ¬ gB (y3 Mm) 7 j = 0 := by
      have := (DP_of n w).2.1 (f_X6_select Mm) rfl c
      rw [y3, gB_sI]
      exact this
    have S3 : SV Mm (f_X5_select Mc) (y3 Mm) := by rw [y3]; exact SV_0 hS
    have eo : f_X3_weightedOffset (f_X5_select Mc) = yo Mm := by rw [co_eq n w S3 hs, yo]
    have h3 : RR (f_X5_select Mc) (y3 Mm) := by rw [y3]; exact RR_0 (RR_m (RR_c h E5) E6)
    have hB := RR_rate (o := yo Mm) h3
    obtain ⟨hC, er⟩ := RR_time (o := yo Mm) hB
    have hD := RR_peer hC
    have w8 : sn (yT (yR (y3 Mm) (yo Mm)) (yo Mm)) ≤ 8 := by rw [sn_y, y3, sn_sI0 (by decide), EQ_sn E6]; exact (WFs w).1
    have hF := RR_end w8 hD g0
    refine ⟨_, _, _, ?_, e, hF, ?_⟩
    · simp -implicitDefEqProofs (disch := decide) only [f_X5_synchronize, bnd_e, bnd2_e, hm, eo, er]
      rw [if_neg (by decide)]
    · rw [gI_sB, yE_I (by decide) (by decide), yT_I (by decide), yR_I (by decide), y3, gI_eq]
  · left
    have c' : ¬ gI (f_X6_select Mm) 7 < 2 * gI (f_X6_select Mm) 8 := c
    rw [if_neg c'] at hm
    refine ⟨?_, syn_no c⟩
    simp -implicitDefEqProofs (disch := decide) only [f_X5_synchronize, bnd_e, bnd2_e, hm, if_true]
theorem r_27 {Mc Mm : Mem} (n : NI Mm) (w : WFm Mm) (h : RR Mc Mm) : RR (f_X5_synchronize Mc).2.2 (f_X6_synchronize Mm).2 := by
  rcases sy_cases n w h with ⟨e1, e2⟩ | ⟨v, Mc', Mm', e1, e2, hR, -⟩ <;> rw [e1, e2]
  · exact RR_0 (RR_m (RR_c h EC_select) (sel_ok n w).2.1)
  · exact hR
theorem kp_27 {Mc Mm : Mem} (n : NI Mm) (w : WFm Mm) (h : RR Mc Mm) : cmpN (fun n => if n = 2 then 1 else 0) (toJ (f_X5_synchronize Mc)) (toM (f_X6_synchronize Mm)) := by
  rcases sy_cases n w h with ⟨e1, e2⟩ | ⟨v, Mc', Mm', e1, e2, -, h0⟩ <;> rw [e1, e2]
  · exact cI_thr (by decide) (by decide)
  · exact cI_ok h0 rfl
theorem c_14s {M : Mem} {x : Int32} : (f_X5_samples M x).2.2 = M := by
  rcases ho : f_X5_serverOrNull M x with _ | k
  · rw [f_X5_samples, kn_no ho, thn_no (by decide)]
  · rw [f_X5_samples, kn_yes ho, thn_yes]; simp -implicitDefEqProofs (disch := decide) only [bnd_e, bnd2_e]
