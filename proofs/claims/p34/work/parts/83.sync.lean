/-! synchronize: the stratum too is a function of the reference's memory -/
theorem maj_iff {Mm M : Mem} {t : Int32} (h : CL Mm t M) : maj Mm ↔ ¬ mjV Mm = 0 := by
  have e1 := maj_e (SEL_of h)
  have e2 := maj_v h
  rw [e2] at e1
  unfold maj
  by_cases c : gI (f_X6_select Mm) 7 < 2 * gI (f_X6_select Mm) 8
  · rw [if_pos c] at e1
    rw [e1]; exact ⟨fun _ => by decide, fun _ => c⟩
  · rw [if_neg c] at e1
    rw [e1]; exact ⟨fun q => absurd q c, fun q => absurd rfl q⟩
def sO (T : Mem) (x : Int32) : Option Nat := if x < gI T 6 then opt (f_X5_roomOrNull T x) (none) (fun k_2 => some (k_2)) else none
theorem room_M {A B : Mem} {x : Int32} : f_X5_roomOrNull A x = f_X5_roomOrNull B x := by rw [f_X5_roomOrNull, f_X5_roomOrNull]
theorem sO_e {A T : Mem} {x : Int32} (h : gI A 0 = gI T 6) : f_X5_serverOrNull A x = sO T x := by rw [f_X5_serverOrNull, sO, h, room_M (A := A) (B := T)]
theorem sO_lt {A T : Mem} {x : Int32} {k : Nat} (w : WFa T) (h : gI A 0 = gI T 6) (e : sO T x = some k) : k < sn T := by
  have hs := w.1
  rw [← sO_e h, f_X5_serverOrNull] at e
  by_cases c : x < gI A 0
  · rw [if_pos c] at e
    rw [h, hs.2] at c
    rw [f_X5_roomOrNull] at e
    by_cases c1 : x < 0
    · rw [if_pos c1, opt_none rfl] at e; cases e
    · rw [if_neg c1] at e
      by_cases c2 : x < 8
      · rw [if_pos c2, opt_some rfl] at e
        have e' : x.toNatClampNeg = k := Option.some.inj e
        have q1 := i_lt.mp c
        rw [nI_toInt (by omega)] at q1
        have q2 : ¬ x.toInt < 0 := fun q => c1 (i_lt.mpr (by rw [show (0 : Int32).toInt = 0 by decide]; exact q))
        rw [← e']
        show x.toInt.toNat < _
        omega
      · rw [if_neg c2, opt_none rfl] at e; cases e
  · rw [if_neg c] at e; cases e
/-- the memory behind part 2 of a synchronization -/
def yB (Mm : Mem) : Mem := yT (yR (y3 Mm) (yo Mm)) (yo Mm)
def stN (T : Mem) (t : Int32) : Int32 := opt (sO T (pe T)) t (fun k => gB T 1 k + 1)
def tS (Mm : Mem) (t : Int32) : Int32 := if mjV Mm = 0 then t else stN (nrm (yB Mm)) t
theorem yT_J {M : Mem} {o : Int64} {a : Nat} : gJ (yT M o) a = gJ M a := by unfold yT; split <;> simp -implicitDefEqProofs (disch := decide) only [gL_eq, gL_ne, gI_eq, gI_ne, gB_eq, gB_ne, gJ_eq, gJ_ne, gL_sI, gI_sL, gI_sB, gI_sJ, gL_sB, gL_sJ, gB_sI, gB_sL, gB_sJ, gJ_sI, gJ_sL, gJ_sB]
theorem yR_J {M : Mem} {o : Int64} {a : Nat} : gJ (yR M o) a = gJ M a := by
  unfold yR
  repeat' split
  all_goals first | rfl | exact gJ_sI
section SY
variable {Mm M u : Mem} {t : Int32}
theorem y3_EQ (n : NI Mm) (w : WFm Mm) : EQ Mm (y3 Mm) := (sel_ok n.nb w).2.1.tr (EQ_sI (Or.inl rfl))
theorem yB_sn : sn (yB Mm) = sn (y3 Mm) := by rw [yB, sn_y]
theorem yB_kn {k : Nat} : kn (yB Mm) k = kn (y3 Mm) k := by rw [kn, yB, yT_B, yR_B, ← kn]
theorem yB_wf (n : NI Mm) (w : WFm Mm) : WFa (yB Mm) := by
  have e := WFa_eq (y3_EQ n w) w.a
  refine ⟨⟨by rw [yB_sn]; exact e.1.1, by rw [yB_sn, yB, yT_I (by decide), yR_I (by decide)]; exact e.1.2⟩, fun j hj => ?_⟩
  rw [yB_kn, yB, yT_B, yR_B]
  exact e.2 j hj
theorem pos128 {o : Int64} (c : 128000 < o) : 128000 < o.toInt := by
  have := l_lt.mp c
  rw [show (128000 : Int64).toInt = 128000 by decide] at this
  exact this
theorem yB_pic (n : NI Mm) (w : WFm Mm) (hm : maj Mm) : picI (yB Mm) = if 128000 < yo Mm then picI Mm + (yo Mm).toInt * 1000000 else picI Mm := by
  obtain ⟨o1, o2, o3⟩ := yo_rng n w hm
  have L1 : gL (y3 Mm) 1 = gL Mm 1 := (y3_EQ n w).2.1 1 (by decide) (by decide)
  unfold picI
  rw [yB, yT_1, yR_L, L1]
  by_cases c : 128000 < yo Mm
  · rw [if_pos c, if_pos c]; exact o_num (pic_rng n.1) ⟨o1, o2⟩
  · rw [if_neg c, if_neg c, Int64.add_zero]
theorem yB_nb (n : NI Mm) (w : WFm Mm) (hm : maj Mm) : NB (yB Mm) := by
  obtain ⟨o1, o2, o3⟩ := yo_rng n w hm
  have E3 := y3_EQ n w
  have nb := n.nb.eq E3
  have e3 : picI (y3 Mm) = picI Mm := by unfold picI; rw [E3.2.1 1 (by decide) (by decide)]
  have hp := yB_pic n w hm
  have hr : -4000000000 ≤ picI Mm / 1000000 ∧ picI Mm / 1000000 ≤ 1010000000000 := by
    obtain ⟨⟨a1, a2⟩, ⟨a3, a4⟩, -⟩ := n.1
    unfold dev at a3 a4
    omega
  have hge : picI Mm / 1000000 ≤ picI (yB Mm) / 1000000 ∧ picI (yB Mm) / 1000000 ≤ 1100000000000 := by
    rw [hp]
    by_cases c : 128000 < yo Mm
    · have := pos128 c
      rw [if_pos c]; omega
    · rw [if_neg c]; omega
  refine ⟨⟨by omega, hge.2⟩, fun k hk => ?_⟩
  rw [yB_sn] at hk
  have a := nb.2 k hk
  unfold okVB at a ⊢
  rw [yB_kn]
  have eB : ∀ q, gB (yB Mm) q = gB (y3 Mm) q := fun q => by rw [yB, yT_B, yR_B]
  have eJ : ∀ q, gJ (yB Mm) q = gJ (y3 Mm) q := fun q => by rw [yB, yT_J, yR_J]
  rw [eB, eB, eJ, eJ, eJ]
  refine ⟨trivial, a.2.1, a.2.2.1, fun q hq => ?_⟩
  obtain ⟨b1, b2, b3, b4, b5, b6⟩ := a.2.2.2 q hq
  rw [e3] at b6
  exact ⟨b1, b2, b3, b4, b5, Int.le_trans b6 hge.1⟩
theorem stra_M {A T : Mem} (r : RR A T) (n : NB T) (w : WFm T) (ht : gI A 1 = t) : gI (f_X5_takeStratumOfPeer A) 1 = stN T t := by
  have hS := sel_both n w r
  have e0 : gI (f_X5_select A) 0 = gI T 6 := (hS.1.1 0 (by decide) (by decide) (by decide)).trans r.1.2.2.2.2.2.2.2.2
  have ep : f_X3_preferred (f_X5_select A) = pe T := pf_eq hS.2.2.1
  have e1 : gI (f_X5_select A) 1 = t := (hS.1.1 1 (by decide) (by decide) (by decide)).trans ht
  have ex : f_X5_takeStratumOfPeer A = opt (sO T (pe T)) (f_X5_select A) (fun k => sI (f_X5_select A) 1 (gI (f_X5_select A) (13 + 4 * k) + 1)) := by
    rw [f_X5_takeStratumOfPeer, bnd_e, bnd_e, ep, sO_e e0]
    rfl
  rw [ex, stN]
  rcases ho : sO T (pe T) with _ | k
  · rw [opt_none rfl, opt_none rfl]; exact e1
  · rw [opt_some rfl, opt_some rfl, gI_eq]
    have hk := sO_lt w.a e0 ho
    rw [hS.1.1 _ (by omega) (by omega) (by omega), (r.2.2 k hk).1]
theorem ra_1 {o : Int64} : gI (f_X5_correctRate M o) 1 = gI M 1 := by
  rw [f_X5_correctRate, bnd_e, bnd_e]
  split
  · split
    · rw [bnd_e, bnd_e]; simp -implicitDefEqProofs (disch := decide) only [f_X1_addCorrection, bnd_e, bnd2_e, gL_eq, gL_ne, gI_eq, gI_ne, gB_eq, gB_ne, gJ_eq, gJ_ne, gL_sI, gI_sL, gI_sB, gI_sJ, gL_sB, gL_sJ, gB_sI, gB_sL, gB_sJ, gJ_sI, gJ_sL, gJ_sB]
    · rfl
  · rfl
theorem ti_1 {o : Int64} : gI (f_X5_correctTime M o).2 1 = gI M 1 := by
  rw [f_X5_correctTime]
  split
  · simp -implicitDefEqProofs (disch := decide) only [f_X1_step, bnd_e, bnd2_e, gL_eq, gL_ne, gI_eq, gI_ne, gB_eq, gB_ne, gJ_eq, gJ_ne, gL_sI, gI_sL, gI_sB, gI_sJ, gL_sB, gL_sJ, gB_sI, gB_sL, gB_sJ, gJ_sI, gJ_sL, gJ_sB]
  · simp -implicitDefEqProofs (disch := decide) only [f_X1_slew, bnd_e, bnd2_e, gL_eq, gL_ne, gI_eq, gI_ne, gB_eq, gB_ne, gJ_eq, gJ_ne, gL_sI, gI_sL, gI_sB, gI_sJ, gL_sB, gL_sJ, gB_sI, gB_sL, gB_sJ, gJ_sI, gJ_sL, gJ_sB]
theorem s1_27 (h : CL Mm t M) : gI (f_X5_synchronize M).2.2 1 = tS Mm t := by
  have hS := SEL_of h
  by_cases c : mjV Mm = 0
  · have e : f_X5_synchronize M = (2, 0, f_X5_select M) := by simp -implicitDefEqProofs (disch := decide) only [f_X5_synchronize, bnd_e, bnd2_e, maj_v h, c, if_true]
    rw [e, tS, if_pos c]
    exact (hS.1.1 1 (by decide) (by decide) (by decide)).trans h.2.2.2
  · have hm := (maj_iff h).mpr c
    have hs : ∃ j, j < 8 ∧ ¬ gB (y3 Mm) 7 j = 0 := by
      have := (DP_of h.2.1.nb h.2.2.1).2.1 (f_X6_select Mm) rfl hm
      rw [y3, gB_sI]
      exact this
    have S3 : SV Mm (f_X5_select M) (y3 Mm) := by rw [y3]; exact SV_0 hS.2.2.1
    have eo : f_X3_weightedOffset (f_X5_select M) = yo Mm := by rw [co_eq h.2.1.nb h.2.2.1 S3 hs, yo]
    have h3 : RR (f_X5_select M) (y3 Mm) := by rw [y3]; exact RR_0 (RR_m (RR_c h.1 hS.1) hS.2.1)
    have hB := RR_rate (o := yo Mm) h3
    obtain ⟨hC, -⟩ := RR_time (o := yo Mm) hB
    have e1 : gI (f_X5_correctTime (f_X5_correctRate (f_X5_select M) (yo Mm)) (yo Mm)).2 1 = t := by
      rw [ti_1, ra_1]
      exact (hS.1.1 1 (by decide) (by decide) (by decide)).trans h.2.2.2
    have hT := stra_M (RR_m hC EQ_nrm) ((yB_nb h.2.1 h.2.2.1 hm).eq EQ_nrm) (WF_nrm (yB_wf h.2.1 h.2.2.1)) e1
    rw [tS, if_neg c, yB, ← hT]
    simp -implicitDefEqProofs (disch := decide) only [f_X5_synchronize, bnd_e, bnd2_e, maj_v h, eo, if_neg c]
    rw [gI_ne (by decide), gI_sL]
    exact (fg_e (M := f_X5_takeStratumOfPeer (f_X5_correctTime (f_X5_correctRate (f_X5_select M) (yo Mm)) (yo Mm)).2)).1 1 (by decide)
theorem wf_27 (n : NI Mm) (w : WFm Mm) : WFa (f_X6_synchronize Mm).2 := by
  have hE := (sel_ok n.nb w).2.1
  by_cases c : maj Mm
  · obtain ⟨g, g0, e⟩ := syn_yes c
    rw [e]
    have e3 := yB_wf n w
    refine ⟨⟨?_, ?_⟩, fun j hj => ?_⟩
    · rw [sn_sB, sn, yE_I (by decide) (by decide)]; exact e3.1.1
    · rw [sn_sB, gI_sB, sn, yE_I (by decide) (by decide)]; exact e3.1.2
    · rw [kn, gB_eq, g0 j hj]; exact ⟨by decide, by decide⟩
  · rw [syn_no c]
    exact WFa_eq (hE.tr EQ_0) w.a
theorem sp_sync {r : Int32} (h : CL Mm t M) (hw : (r, u) = wI (f_X5_synchronize M)) : r = ansI bkS (f_X6_synchronize Mm) ∧ CL (nrm (f_X6_synchronize Mm).2) (tS Mm t) u := by
  obtain ⟨e1, e2⟩ := u_I hw
  refine ⟨e1.trans (ans_I (kp_27 h.2.1 h.2.2.1 h.1) (f_X5_synchronize_c M) (one_of ⟨by decide, by decide⟩)), ?_⟩
  exact CL_mk (by rw [e2]; exact r_27 h.2.1 h.2.2.1 h.1) (ni_27 h.2.1 h.2.2.1) (wf_27 h.2.1 h.2.2.1) (by rw [e2]; exact s1_27 h)
theorem good_sync {t' : Int32} (h : CL Mm t M) (g : CL (nrm (f_X6_synchronize Mm).2) t' u) : GOOD Mm (nrm (f_X6_synchronize Mm).2) := by
  have hE := (sel_ok h.2.1.nb h.2.2.1).2.1
  by_cases c : maj Mm
  · obtain ⟨gg, g0, e⟩ := syn_yes c
    rw [e] at g ⊢
    dsimp only at g ⊢
    have E3 := y3_EQ h.2.1 h.2.2.1
    have hp := yB_pic h.2.1 h.2.2.1 c
    have ep : picI (nrm (sB (yE (yT (yR (y3 Mm) (yo Mm)) (yo Mm))) 5 gg)) = picI (yB Mm) := by unfold picI; rw [L_nrm, gL_sB, yE_L (by decide), yB]
    refine good_of h g ?_ ?_ ?_
    · rw [rd_i, rd_i, ep, hp]
      by_cases q : 128000 < yo Mm
      · have := pos128 q
        rw [if_pos q]; omega
      · rw [if_neg q]; exact Int.le_refl _
    · rw [B_nrm (by decide) (by decide), gB_ne (by decide), yE_B, yT_B, yR_B, E3.2.2.1 0 (by decide) (by decide)]
    · unfold nowI
      rw [L_nrm, gL_sB, yE_L (by decide), yT_0, yR_L, E3.2.1 0 (by decide) (by decide)]
      omega
  · rw [syn_no c] at g ⊢
    have E0 := hE.tr (EQ_0 (v := 1))
    exact good_same h g (by rw [L_nrm]; exact E0.2.1 0 (by decide) (by decide)) (by rw [L_nrm]; exact E0.2.1 1 (by decide) (by decide)) (by rw [B_nrm (by decide) (by decide)]; exact E0.2.2.1 0 (by decide) (by decide))
end SY
