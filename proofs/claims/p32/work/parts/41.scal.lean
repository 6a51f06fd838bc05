/-! the scalars of the two memories: the relation RS, and what the calls on them answer -/
def RS (Mc Mm : Mem) : Prop := gL Mc 0 = gL Mm 0 ∧ gL Mc 2 = gL Mm 1 ∧ gL Mc 3 = gL Mm 2 ∧ gI Mc 4 = gI Mm 1 ∧ gI Mc 5 = gI Mm 2 ∧ gI Mc 2 = gI Mm 3 ∧ gI Mc 3 = gI Mm 4 ∧ gL Mc 1 = gL Mm 3 ∧ gI Mc 0 = gI Mm 6
theorem ref_e {M : Mem} {p : Int32} : f_X6_refused M p = (if p = 0 then 0 else 1, sI M 0 p) := by
  simp -implicitDefEqProofs (disch := decide) only [f_X6_refused, bnd_e, bnd2_e]
  by_cases h : p = 0
  · rw [if_pos h, if_pos h]
  · rw [if_neg h, if_neg h]
theorem fine_e {M : Mem} {v : Int32} : f_X6_fine M v = (v, sI M 0 0) := by simp -implicitDefEqProofs (disch := decide) only [f_X6_fine, bnd_e, bnd2_e]
theorem finl_e {M : Mem} {v : Int64} : f_X6_fineLong M v = (v, sI M 0 0) := by simp -implicitDefEqProofs (disch := decide) only [f_X6_fineLong, bnd_e, bnd2_e]
theorem cN_thr {mp : Nat → Int32} {n : Nat} {v y : Int64} {M M' : Mem} {c : Int32} (hn : n ≠ 0) (hm : mp n = c) : cmpN mp (n, v, M) (y, sI M' 0 c) := by
  refine ⟨?_, fun q => absurd q hn⟩
  show gI (sI M' 0 c) 0 = if n = 0 then 0 else mp n
  rw [gI_eq, if_neg hn, hm]
theorem cN_ok {mp : Nat → Int32} {v y : Int64} {M M' : Mem} (h0 : gI M' 0 = 0) (hv : v = y) : cmpN mp (0, v, M) (y, M') := ⟨h0, fun _ => hv⟩
theorem cI_thr {mp : Nat → Int32} {n : Nat} {v y : Int32} {M M' : Mem} {c : Int32} (hn : n ≠ 0) (hm : mp n = c) : cmpN mp (toJ (n, v, M)) (toM (y, sI M' 0 c)) := cN_thr hn hm
theorem cI_ok {mp : Nat → Int32} {v y : Int32} {M M' : Mem} (h0 : gI M' 0 = 0) (hv : v = y) : cmpN mp (toJ (0, v, M)) (toM (y, M')) := cN_ok h0 (congrArg Int32.toInt64 hv)
theorem cV_thr {mp : Nat → Int32} {n : Nat} {M M' : Mem} {c : Int32} (hn : n ≠ 0) (hm : mp n = c) : cmpV mp (n, M) (sI M' 0 c) := by
  show gI (sI M' 0 c) 0 = if n = 0 then 0 else mp n
  rw [gI_eq, if_neg hn, hm]
theorem cV_ok {mp : Nat → Int32} {M M' : Mem} (h0 : gI M' 0 = 0) : cmpV mp (0, M) M' := h0
/-! time passes -/
def prt (p : Int64) (t : Int32) : Int64 := if 500 * t.toInt64 < p then 500 * t.toInt64 else if p < -(500 * t.toInt64) then -(500 * t.toInt64) else p
theorem t500 {t : Int32} (h0 : 0 ≤ t.toInt) : (500 * t.toInt64).toInt = 500 * t.toInt ∧ (-(500 * t.toInt64)).toInt = -(500 * t.toInt) := by
  have hr := i_rng t
  have e : ((500 : Int64) * t.toInt64).toInt = 500 * t.toInt := by
    rw [l_mul, Int32.toInt_toInt64, show (500 : Int64).toInt = 500 by decide]
    rw [Int32.toInt_toInt64, show (500 : Int64).toInt = 500 by decide]; omega
  exact ⟨e, by rw [l_neg (by rw [e]; omega), e]⟩
theorem prt_eq {p : Int64} {t : Int32} (h0 : 0 ≤ t.toInt) : (if (if p < 500 * t.toInt64 then p else 500 * t.toInt64) < -(500 * t.toInt64) then -(500 * t.toInt64) else (if p < 500 * t.toInt64 then p else 500 * t.toInt64)) = prt p t := by
  obtain ⟨e1, e2⟩ := t500 h0
  unfold prt
  by_cases h1 : 500 * t.toInt64 < p
  · have h1' := l_lt.mp h1
    have n1 : ¬ p < 500 * t.toInt64 := fun q => by have := l_lt.mp q; omega
    have n2 : ¬ 500 * t.toInt64 < -(500 * t.toInt64) := fun q => by have := l_lt.mp q; omega
    rw [if_neg n1, if_neg n2, if_pos h1]
  · rw [if_neg h1]
    by_cases h2 : p < 500 * t.toInt64
    · rw [if_pos h2]
    · have e : p = 500 * t.toInt64 := l_eq (by
        have a1 : ¬ (500 * t.toInt64).toInt < p.toInt := fun q => h1 (l_lt.mpr q)
        have a2 : ¬ p.toInt < (500 * t.toInt64).toInt := fun q => h2 (l_lt.mpr q)
        omega)
      rw [if_neg h2, ← e]
theorem el5 {M : Mem} {t : Int32} (h0 : 0 ≤ t.toInt) : f_X5_elapse M t = sL (sL (sL M 0 (gL M 0 + t.toInt64)) 2 (gL M 2 + (t.toInt64 * ((1000000 + (gI M 4).toInt64) + (gI M 5).toInt64) + prt (gL M 3) t))) 3 (gL M 3 - prt (gL M 3) t) := by
  simp -implicitDefEqProofs (disch := decide) only [f_X5_elapse, f_X1_elapse, bnd_e, bnd2_e, gL_eq, gL_ne, gI_eq, gI_ne, gB_eq, gB_ne, gJ_eq, gJ_ne, gL_sI, gI_sL, gI_sB, gI_sJ, gL_sB, gL_sJ, gB_sI, gB_sL, gB_sJ, gJ_sI, gJ_sL, gJ_sB, prt_eq h0]
theorem go6 {M : Mem} {t : Int32} : f_X6_goOn M t = sL (sL (sL M 0 (gL M 0 + t.toInt64)) 1 (gL M 1 + (t.toInt64 * ((1000000 + (gI M 1).toInt64) + (gI M 2).toInt64) + prt (gL M 2) t))) 2 (gL M 2 - prt (gL M 2) t) := by
  simp -implicitDefEqProofs (disch := decide) only [f_X6_goOn, bnd_e, bnd2_e, gL_eq, gL_ne, gI_eq, gI_ne, gB_eq, gB_ne, gJ_eq, gJ_ne, gL_sI, gI_sL, gI_sB, gI_sJ, gL_sB, gL_sJ, gB_sI, gB_sL, gB_sJ, gJ_sI, gJ_sL, gJ_sB]
  unfold prt
  by_cases h1 : 500 * t.toInt64 < gL M 2
  · simp -implicitDefEqProofs (disch := decide) only [if_pos h1]
  · by_cases h2 : gL M 2 < -(500 * t.toInt64)
    · simp -implicitDefEqProofs (disch := decide) only [if_neg h1, if_pos h2]
    · simp -implicitDefEqProofs (disch := decide) only [if_neg h1, if_neg h2]
theorem RS_ref {Mc Mm : Mem} {v : Int32} (h : RS Mc Mm) : RS Mc (sI Mm 0 v) := by
  unfold RS at h ⊢
  simp -implicitDefEqProofs (disch := decide) only [gL_eq, gL_ne, gI_eq, gI_ne, gB_eq, gB_ne, gJ_eq, gJ_ne, gL_sI, gI_sL, gI_sB, gI_sJ, gL_sB, gL_sJ, gB_sI, gB_sL, gB_sJ, gJ_sI, gJ_sL, gJ_sB]
  exact h
theorem RS_go {Mc Mm : Mem} {t : Int32} (h0 : 0 ≤ t.toInt) (h : RS Mc Mm) : RS (f_X5_elapse Mc t) (f_X6_goOn Mm t) := by
  rw [el5 h0, go6]
  obtain ⟨a1, a2, a3, a4, a5, a6, a7, a8, a9⟩ := h
  unfold RS
  simp -implicitDefEqProofs (disch := decide) only [gL_eq, gL_ne, gI_eq, gI_ne, gB_eq, gB_ne, gJ_eq, gJ_ne, gL_sI, gI_sL, gI_sB, gI_sJ, gL_sB, gL_sJ, gB_sI, gB_sL, gB_sJ, gJ_sI, gJ_sL, gJ_sB, a1, a2, a3, a4, a5, a6, a7, a8, a9, and_self]
theorem RS_rd {Mc Mm : Mem} (h : RS Mc Mm) : f_X1_reading Mc = f_X6_reading Mm := rd_eq h.2.1
theorem rd_sI {M : Mem} {i : Nat} {v : Int32} : f_X6_reading (sI M i v) = f_X6_reading M := by rw [rd6, rd6, gL_sI]
/-! pass -/
theorem pass5 {M : Mem} {x : Int32} : f_X5_pass M x = if f_X5_isWithin x 1 1000000000 = 0 then (1, 0, M) else if (1000000000000 : Int64) < gL M 0 + x.toInt64 then (2, 0, M) else (0, f_X1_reading (f_X5_elapse M x), f_X5_elapse M x) := by
  simp -implicitDefEqProofs (disch := decide) only [f_X5_pass, f_X5_isBeyondLastTrueTime, bnd_e, bnd2_e]
  by_cases h1 : f_X5_isWithin x 1 1000000000 = 0
  · rw [if_pos h1, if_pos h1]
  · rw [if_neg h1, if_neg h1]
    by_cases h2 : (1000000000000 : Int64) < gL M 0 + x.toInt64
    · rw [if_pos h2, if_pos h2, if_neg (by decide)]
    · rw [if_neg h2, if_neg h2, if_pos rfl]
theorem pass6 {M : Mem} {x : Int32} : f_X6_pass M x = if f_X5_isWithin x 1 1000000000 = 0 then (0, sI M 0 1) else if (1000000000000 : Int64) < gL M 0 + x.toInt64 then (0, sI M 0 2) else (f_X6_reading (f_X6_goOn (sI M 0 0) x), f_X6_goOn (sI M 0 0) x) := by
  simp -implicitDefEqProofs (disch := decide) only [f_X6_pass, bnd_e, bnd2_e, ref_e, wi_in (x := x) (a := 1) (b := 1000000000) (a' := 1) (b' := 1000000000) (by decide) (by decide)]
theorem kp_1 {Mc Mm : Mem} {x : Int32} (h : RS Mc Mm) : cmpN (fun n => if n = 1 then 1 else if n = 2 then 2 else 0) (f_X5_pass Mc x) (f_X6_pass Mm x) := by
  rw [pass5, pass6]
  by_cases h1 : f_X5_isWithin x 1 1000000000 = 0
  · rw [if_pos h1, if_pos h1]
    exact cN_thr (by decide) (by decide)
  · rw [if_neg h1, if_neg h1, h.1]
    by_cases h2 : (1000000000000 : Int64) < gL Mm 0 + x.toInt64
    · rw [if_pos h2, if_pos h2]
      exact cN_thr (by decide) (by decide)
    · rw [if_neg h2, if_neg h2]
      have hw := within_1 h1
      have h0 : 0 ≤ x.toInt := by have : (1 : Int32).toInt = 1 := by decide
                                  omega
      refine cN_ok ?_ (RS_rd (RS_go h0 (RS_ref h)))
      rw [go6]
      simp -implicitDefEqProofs (disch := decide) only [gL_eq, gL_ne, gI_eq, gI_ne, gB_eq, gB_ne, gJ_eq, gJ_ne, gL_sI, gI_sL, gI_sB, gI_sJ, gL_sB, gL_sJ, gB_sI, gB_sL, gB_sJ, gJ_sI, gJ_sL, gJ_sB]
theorem rs_1 {Mc Mm : Mem} {x : Int32} (h : RS Mc Mm) : RS (f_X5_pass Mc x).2.2 (f_X6_pass Mm x).2 := by
  rw [pass5, pass6]
  by_cases h1 : f_X5_isWithin x 1 1000000000 = 0
  · rw [if_pos h1, if_pos h1]; exact RS_ref h
  · rw [if_neg h1, if_neg h1, h.1]
    by_cases h2 : (1000000000000 : Int64) < gL Mm 0 + x.toInt64
    · rw [if_pos h2, if_pos h2]; exact RS_ref h
    · rw [if_neg h2, if_neg h2]
      have hw := within_1 h1
      have h0 : 0 ≤ x.toInt := by have : (1 : Int32).toInt = 1 := by decide
                                  omega
      exact RS_go h0 (RS_ref h)
/-! setDrift -/
theorem drift5 {M : Mem} {x : Int32} : f_X5_setDrift M x = if f_X5_isWithin x (-300) 300 = 0 then (1, 0, M) else (0, gI M 4, sI M 4 x) := by
  simp -implicitDefEqProofs (disch := decide) only [f_X5_setDrift, f_X1_changeDrift, bnd_e, bnd2_e]
theorem drift6 {M : Mem} {x : Int32} : f_X6_setDrift M x = if f_X5_isWithin x (-300) 300 = 0 then (0, sI M 0 1) else (gI M 1, sI (sI M 0 0) 1 x) := by
  simp -implicitDefEqProofs (disch := decide) only [f_X6_setDrift, bnd_e, bnd2_e, ref_e, gL_eq, gL_ne, gI_eq, gI_ne, gB_eq, gB_ne, gJ_eq, gJ_ne, gL_sI, gI_sL, gI_sB, gI_sJ, gL_sB, gL_sJ, gB_sI, gB_sL, gB_sJ, gJ_sI, gJ_sL, gJ_sB, wi_in (x := x) (a := -300) (b := 300) (a' := -300) (b' := 300) (by decide) (by decide)]
theorem kp_2 {Mc Mm : Mem} {x : Int32} (h : RS Mc Mm) : cmpN (fun n => if n = 1 then 1 else 0) (toJ (f_X5_setDrift Mc x)) (toM (f_X6_setDrift Mm x)) := by
  rw [drift5, drift6]
  by_cases h1 : f_X5_isWithin x (-300) 300 = 0
  · rw [if_pos h1, if_pos h1]
    exact cI_thr (by decide) (by decide)
  · rw [if_neg h1, if_neg h1]
    exact cI_ok (by simp -implicitDefEqProofs (disch := decide) only [gL_eq, gL_ne, gI_eq, gI_ne, gB_eq, gB_ne, gJ_eq, gJ_ne, gL_sI, gI_sL, gI_sB, gI_sJ, gL_sB, gL_sJ, gB_sI, gB_sL, gB_sJ, gJ_sI, gJ_sL, gJ_sB]) h.2.2.2.1
theorem rs_2 {Mc Mm : Mem} {x : Int32} (h : RS Mc Mm) : RS (f_X5_setDrift Mc x).2.2 (f_X6_setDrift Mm x).2 := by
  rw [drift5, drift6]
  by_cases h1 : f_X5_isWithin x (-300) 300 = 0
  · rw [if_pos h1, if_pos h1]; exact RS_ref h
  · rw [if_neg h1, if_neg h1]
    obtain ⟨a1, a2, a3, a4, a5, a6, a7, a8, a9⟩ := h
    unfold RS
    simp -implicitDefEqProofs (disch := decide) only [gL_eq, gL_ne, gI_eq, gI_ne, gB_eq, gB_ne, gJ_eq, gJ_ne, gL_sI, gI_sL, gI_sB, gI_sJ, gL_sB, gL_sJ, gB_sI, gB_sL, gB_sJ, gJ_sI, gJ_sL, gJ_sB, a1, a2, a3, a4, a5, a6, a7, a8, a9, and_self]
/-! what only reads -/
theorem kp_3 {Mc Mm : Mem} (h : RS Mc Mm) : f_X5_trueTime Mc = (f_X6_trueTime Mm).1 := by simp -implicitDefEqProofs (disch := decide) only [f_X5_trueTime, f_X6_trueTime, bnd_e, bnd2_e, finl_e, h.1]
theorem kp_4 {Mc Mm : Mem} (h : RS Mc Mm) : f_X5_clock Mc = (f_X6_clock Mm).1 := by simp -implicitDefEqProofs (disch := decide) only [f_X5_clock, f_X6_clock, bnd_e, bnd2_e, finl_e, RS_rd h]
theorem kp_5 {Mc Mm : Mem} (h : RS Mc Mm) : f_X5_error Mc = (f_X6_error Mm).1 := by simp -implicitDefEqProofs (disch := decide) only [f_X5_error, f_X6_error, bnd_e, bnd2_e, finl_e, RS_rd h, h.1]
theorem kp_6 {Mc Mm : Mem} (h : RS Mc Mm) : f_X5_pendingSlew Mc = (f_X6_pendingSlew Mm).1 := by simp -implicitDefEqProofs (disch := decide) only [f_X5_pendingSlew, f_X1_pendingMicros, f_X6_pendingSlew, bnd_e, bnd2_e, finl_e, h.2.2.1]
theorem kp_7 {Mc Mm : Mem} (h : RS Mc Mm) : f_X5_correction Mc = (f_X6_correction Mm).1 := by simp -implicitDefEqProofs (disch := decide) only [f_X5_correction, f_X1_presentCorrection, f_X6_correction, bnd_e, bnd2_e, fine_e, h.2.2.2.2.1]
theorem kp_13 {Mc Mm : Mem} (w : WFm Mm) (h : RS Mc Mm) : f_X5_servers Mc = (f_X6_servers Mm).1 := by simp -implicitDefEqProofs (disch := decide) only [f_X5_servers, f_X6_servers, bnd_e, bnd2_e, fine_e, h.2.2.2.2.2.2.2.2, (WFs w).2]
theorem kp_29 {Mc Mm : Mem} (h : RS Mc Mm) : f_X5_steps Mc = (f_X6_steps Mm).1 := by simp -implicitDefEqProofs (disch := decide) only [f_X5_steps, f_X6_steps, bnd_e, bnd2_e, fine_e, h.2.2.2.2.2.1]
theorem kp_30 {Mc Mm : Mem} (h : RS Mc Mm) : f_X5_synchronizations Mc = (f_X6_synchronizations Mm).1 := by simp -implicitDefEqProofs (disch := decide) only [f_X5_synchronizations, f_X6_synchronizations, bnd_e, bnd2_e, fine_e, h.2.2.2.2.2.2.1]
theorem st_3 {M : Mem} : (f_X6_trueTime M).2 = sI M 0 0 := by simp -implicitDefEqProofs (disch := decide) only [f_X6_trueTime, bnd_e, bnd2_e, finl_e]
theorem st_4 {M : Mem} : (f_X6_clock M).2 = sI M 0 0 := by simp -implicitDefEqProofs (disch := decide) only [f_X6_clock, bnd_e, bnd2_e, finl_e]
theorem st_5 {M : Mem} : (f_X6_error M).2 = sI M 0 0 := by simp -implicitDefEqProofs (disch := decide) only [f_X6_error, bnd_e, bnd2_e, finl_e]
theorem st_6 {M : Mem} : (f_X6_pendingSlew M).2 = sI M 0 0 := by simp -implicitDefEqProofs (disch := decide) only [f_X6_pendingSlew, bnd_e, bnd2_e, finl_e]
theorem st_7 {M : Mem} : (f_X6_correction M).2 = sI M 0 0 := by simp -implicitDefEqProofs (disch := decide) only [f_X6_correction, bnd_e, bnd2_e, fine_e]
theorem st_13 {M : Mem} : (f_X6_servers M).2 = sI M 0 0 := by simp -implicitDefEqProofs (disch := decide) only [f_X6_servers, bnd_e, bnd2_e, fine_e]
theorem st_28 {M : Mem} : (f_X6_stratum M).2 = sI M 0 0 := by simp -implicitDefEqProofs (disch := decide) only [f_X6_stratum, bnd_e, bnd2_e, fine_e]
theorem st_29 {M : Mem} : (f_X6_steps M).2 = sI M 0 0 := by simp -implicitDefEqProofs (disch := decide) only [f_X6_steps, bnd_e, bnd2_e, fine_e]
theorem st_30 {M : Mem} : (f_X6_synchronizations M).2 = sI M 0 0 := by simp -implicitDefEqProofs (disch := decide) only [f_X6_synchronizations, bnd_e, bnd2_e, fine_e]
/-! restart -/
theorem rst5 {M : Mem} {x : Int32} : f_X5_restart M x = if f_X5_isWithin x (-1000000000) 1000000000 = 0 then (1, M) else (0, f_X5_begin M x) := by simp -implicitDefEqProofs (disch := decide) only [f_X5_restart, bnd_e, bnd2_e]
theorem beg5 {M : Mem} {x : Int32} : f_X5_begin M x = sL (sI (sI (sI (sL (sI (sI (sI (sI (sI (sL (sL M 2 (x.toInt64 * 1000000)) 3 0) 4 0) 5 0) 6 0) 7 0) 0 0) 0 0) 1 16) 2 0) 3 0) 1 0 := by simp -implicitDefEqProofs (disch := decide) only [f_X5_begin, f_X1_begin, f_X0_clear, bnd_e, bnd2_e]
theorem sB_sB {M : Mem} {i : Nat} {f g : Nat → Int32} : sB (sB M i f) i g = sB M i g := by
  refine congrArg (fun z => (M.1, M.2.1, z, M.2.2.2)) ?_
  funext b
  by_cases e : b = i
  · simp only [e, if_true]
  · simp only [sB, e, if_false]
theorem sB_self {M : Mem} {i : Nat} : sB M i (gB M i) = M := by
  obtain ⟨a, b, c, d⟩ := M
  refine congrArg (fun z => (a, b, z, d)) ?_
  funext b
  by_cases e : b = i
  · simp only [e, if_true]; rfl
  · simp only [e, if_false]
/-- the leap seconds' row is all 0 -/
theorem rl_loop : ∀ (r i : Nat) (M : Mem), i + r = 22 → i ≤ 21 → (∀ j, j < i → gB M 0 j = 0) → ∃ f, f_X6_restart_L85 r i M = sB M 0 f ∧ ∀ j, j < 21 → f j = 0 := by
  intro r
  induction r with
  | zero => intro i M h1 h2; omega
  | succ r ih =>
    intro i M h1 h2 h
    rw [f_X6_restart_L85]
    by_cases hi : nI i < 21
    · have hi' : i < 21 := nI_lt8 (n := 21) hi (by omega) (by decide)
      rw [if_pos hi, bnd_e]
      obtain ⟨f, e1, e2⟩ := ih (i + 1) (sB M 0 (upd (gB M 0) i 0)) (by omega) (by omega) (fun j hj => by
        rw [gB_eq]
        by_cases e : j = i
        · rw [e]; simp [upd]
        · simp only [upd, e, if_false]; exact h j (by omega))
      refine ⟨f, ?_, e2⟩
      rw [e1, sB_sB]
    · have e : i = 21 := by
        rcases Nat.lt_or_ge i 21 with q | q
        · exact absurd (nI_lt (a := i) (b := 21) q (by decide)) hi
        · omega
      rw [if_neg hi]
      exact ⟨gB M 0, sB_self.symm, fun j hj => h j (by omega)⟩
theorem rst6 {M : Mem} {x : Int32} : ∃ f : Nat → Int32, (∀ j, j < 21 → f j = 0) ∧ f_X6_restart M x = if f_X5_isWithin x (-1000000000) 1000000000 = 0 then sI M 0 1 else sB (sI (sL (sI (sI (sI (sI (sI (sL (sL (sL (sI M 0 0) 0 0) 1 (x.toInt64 * 1000000)) 2 0) 1 0) 2 0) 3 0) 4 0) 5 16) 3 0) 6 0) 0 f := by
  obtain ⟨f, e1, e2⟩ := rl_loop 22 0 (sI (sL (sI (sI (sI (sI (sI (sL (sL (sL (sI M 0 0) 0 0) 1 (x.toInt64 * 1000000)) 2 0) 1 0) 2 0) 3 0) 4 0) 5 16) 3 0) 6 0) rfl (by omega) (fun j h => absurd h (Nat.not_lt_zero j))
  refine ⟨f, e2, ?_⟩
  rw [← e1]
  simp -implicitDefEqProofs (disch := decide) only [f_X6_restart, bnd_e, bnd2_e, ref_e, wi_in (x := x) (a := -1000000000) (b := 1000000000) (a' := -1000000000) (b' := 1000000000) (by decide) (by decide)]
theorem kp_0 {Mc Mm : Mem} {x : Int32} : cmpV (fun n => if n = 1 then 1 else 0) (f_X5_restart Mc x) (f_X6_restart Mm x) := by
  obtain ⟨f, -, e⟩ := rst6 (M := Mm) (x := x)
  rw [rst5, e]
  by_cases h1 : f_X5_isWithin x (-1000000000) 1000000000 = 0
  · rw [if_pos h1, if_pos h1]; exact cV_thr (by decide) (by decide)
  · rw [if_neg h1, if_neg h1]; exact cV_ok (by simp -implicitDefEqProofs (disch := decide) only [gL_eq, gL_ne, gI_eq, gI_ne, gB_eq, gB_ne, gJ_eq, gJ_ne, gL_sI, gI_sL, gI_sB, gI_sJ, gL_sB, gL_sJ, gB_sI, gB_sL, gB_sJ, gJ_sI, gJ_sL, gJ_sB])
theorem rs_0 {Mc Mm : Mem} {x : Int32} (h : RS Mc Mm) : RS (f_X5_restart Mc x).2 (f_X6_restart Mm x) := by
  obtain ⟨f, -, e⟩ := rst6 (M := Mm) (x := x)
  rw [rst5, e]
  by_cases h1 : f_X5_isWithin x (-1000000000) 1000000000 = 0
  · rw [if_pos h1, if_pos h1]; exact RS_ref h
  · rw [if_neg h1, if_neg h1, beg5]
    unfold RS
    simp -implicitDefEqProofs (disch := decide) only [gL_eq, gL_ne, gI_eq, gI_ne, gB_eq, gB_ne, gJ_eq, gJ_ne, gL_sI, gI_sL, gI_sB, gI_sJ, gL_sB, gL_sJ, gB_sI, gB_sL, gB_sJ, gJ_sI, gJ_sL, gJ_sB, and_self]
/-! which server -/
theorem known_e {M : Mem} {x : Int32} : f_X5_knownServer M x = opt (f_X5_serverOrNull M x) (3, 0, M) (fun k => (0, k, M)) := by rw [f_X5_knownServer]
theorem srv_eq {Mc Mm : Mem} (w : WFm Mm) (h : gI Mc 0 = gI Mm 6) (x : Int32) : (f_X5_serverOrNull Mc x = none ∧ f_X6_isServer Mm x = 0) ∨ (∃ j, j < sn Mm ∧ j < 8 ∧ x = nI j ∧ f_X5_serverOrNull Mc x = some j ∧ ¬ f_X6_isServer Mm x = 0) := by
  obtain ⟨hs8, hs⟩ := WFs w
  have hb : f_X6_isServer Mm x = f_X6_in x.toInt64 0 ((nI (sn Mm)).toInt64 - 1) := by rw [f_X6_isServer, bnd_e]
  have hn1 : ((nI (sn Mm)).toInt64 - 1).toInt = (sn Mm : Int) - 1 := by
    have e1 : (1 : Int64).toInt = 1 := by decide
    rw [l_sub, Int32.toInt_toInt64, nI_toInt (by omega), e1]
    rw [Int32.toInt_toInt64, nI_toInt (by omega), e1]; omega
  have hn : (gI Mc 0).toInt = (sn Mm : Int) := by rw [h, hs, nI_toInt (by omega)]
  rw [f_X5_serverOrNull, f_X5_roomOrNull]
  by_cases h1 : x < gI Mc 0
  · rw [if_pos h1]
    rw [i_lt, hn] at h1
    by_cases h2 : x < 0
    · left
      rw [if_pos h2]
      refine ⟨rfl, ?_⟩
      rw [hb, f_X6_in, if_pos]
      rw [l_lt, Int32.toInt_toInt64]
      exact i_lt.mp h2
    · right
      rw [if_neg h2]
      rw [i_lt] at h2
      have e0 : (0 : Int32).toInt = 0 := by decide
      have e0' : (0 : Int64).toInt = 0 := by decide
      rw [e0] at h2
      have hx : x = nI x.toInt.toNat := i_eq (by rw [nI_toInt (by omega)]; omega)
      have hlt : x < 8 := by rw [i_lt, show (8 : Int32).toInt = 8 by decide]; omega
      rw [if_pos hlt]
      refine ⟨x.toInt.toNat, by omega, by omega, hx, rfl, ?_⟩
      rw [hb, f_X6_in, if_neg (by rw [l_lt, Int32.toInt_toInt64, e0']; omega), if_neg (by rw [l_lt, Int32.toInt_toInt64, hn1]; omega)]
      decide
  · left
    rw [if_neg h1]
    refine ⟨rfl, ?_⟩
    rw [i_lt, hn] at h1
    rw [hb, f_X6_in]
    by_cases h2 : x.toInt64 < 0
    · rw [if_pos h2]
    · rw [if_neg h2, if_pos (by rw [l_lt, Int32.toInt_toInt64, hn1]; omega)]
