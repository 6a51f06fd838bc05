/-! a client of the class, beside a memory of the reference: what each call answers -/
def CL (Mm : Mem) (t : Int32) (M : Mem) : Prop := RR M Mm ∧ NI Mm ∧ WFm Mm ∧ gI M 1 = t
theorem CL.ec {Mm M M' : Mem} {t : Int32} (h : CL Mm t M) (g : EC M M') : CL Mm t M' := ⟨RR_c h.1 g, h.2.1, h.2.2.1, (g.1 1 (by decide) (by decide) (by decide)).trans h.2.2.2⟩
theorem CL.eq {Mm M u : Mem} {t : Int32} (h : CL Mm t M) (e : u = M) : CL Mm t u := by rw [e]; exact h
theorem CL.s8 {Mm M : Mem} {t : Int32} (h : CL Mm t M) : sn Mm ≤ 8 := (WFs h.2.2.1).1
theorem CL.sv {Mm M : Mem} {t : Int32} (h : CL Mm t M) : gI M 0 = nI (sn Mm) := h.1.1.2.2.2.2.2.2.2.2.trans (WFs h.2.2.1).2
def civ (Mm : Mem) : Int64 := (f_X6_civil Mm).1
def agS (Mm : Mem) : Int32 := (f_X6_agreeing Mm).1
def svS (Mm : Mem) : Int32 := (f_X6_survivors Mm).1
def agF (Mm : Mem) (e : Nat) : Bool := decide (¬ gB (f_X6_select Mm) 6 e = 0)
def svF (Mm : Mem) (e : Nat) : Bool := decide (¬ gB (f_X6_select Mm) 7 e = 0)
def CN (Mm : Mem) : Nat := bc (cnd Mm) 8
def AN (Mm : Mem) : Nat := bc (agF Mm) 8
def SN (Mm : Mem) : Nat := bc (svF Mm) 8
def pe (Mm : Mem) : Int32 := f_X6_leader (f_X6_select Mm)
def mjV (Mm : Mem) : Int32 := if CN Mm < 2 * AN Mm then 1 else 0
def lo (Mm : Mem) : Int64 := gL (f_X6_select Mm) 4
def hi (Mm : Mem) : Int64 := gL (f_X6_select Mm) 5
def mean (Mm : Mem) : Int64 := f_X6_combined (f_X6_select Mm)
def loA (Mm : Mem) : Int64 := if CN Mm = 0 then -9999003 else lo Mm
def hiA (Mm : Mem) : Int64 := if CN Mm = 0 then -9999003 else hi Mm
def meA (Mm : Mem) : Int64 := if CN Mm = 0 then -9999003 else mean Mm
def oA (Mm : Mem) (k : Nat) : Int64 := if 0 < kn Mm k then offM Mm k else -9999003
def dA (Mm : Mem) (k : Nat) : Int64 := if 0 < kn Mm k then gJ Mm 1 (bx Mm k) else -9999003
def jA (Mm : Mem) (k : Nat) : Int64 := if 0 < kn Mm k then f_X6_jitterOf Mm k else -9999003
def tA (Mm : Mem) (k : Nat) : Int64 := if 0 < kn Mm k then f_X6_distanceOf Mm k else -9999003
section SP
variable {Mm M u : Mem} {t : Int32}
theorem sp_sel {α : Type} {F : α × Mem} {r : α} (h : CL Mm t M) (e : F.2 = f_X5_select M) (hw : (r, u) = F) : r = F.1 ∧ CL Mm t u :=
  ⟨congrArg Prod.fst hw, by rw [show u = F.2 from congrArg Prod.snd hw, e]; exact h.ec EC_select⟩
theorem sp_true {r : Int64} (h : CL Mm t M) (hw : r = f_X5_trueTime M ∧ u = M) : r = gL Mm 0 ∧ CL Mm t u := ⟨hw.1.trans h.1.1.1, h.eq hw.2⟩
theorem sp_clock {r : Int64} (h : CL Mm t M) (hw : r = f_X5_clock M ∧ u = M) : r = f_X6_reading Mm ∧ CL Mm t u := ⟨hw.1.trans (by rw [f_X5_clock, bnd_e, RS_rd h.1.1]), h.eq hw.2⟩
theorem sp_civil {r : Int64} (h : CL Mm t M) (hw : r = f_X5_civil M ∧ u = M) : r = civ Mm ∧ CL Mm t u := ⟨hw.1.trans (kp_9 h.1.1 h.1.2.1), h.eq hw.2⟩
theorem sp_pend {r : Int64} (h : CL Mm t M) (hw : r = f_X5_pendingSlew M ∧ u = M) : r = gL Mm 2 / 1000000 ∧ CL Mm t u := ⟨hw.1.trans (by rw [f_X5_pendingSlew, bnd_e, f_X1_pendingMicros, h.1.1.2.2.1]), h.eq hw.2⟩
theorem sp_corr {r : Int32} (h : CL Mm t M) (hw : r = f_X5_correction M ∧ u = M) : r = gI Mm 2 ∧ CL Mm t u := ⟨hw.1.trans (by rw [f_X5_correction, bnd_e, f_X1_presentCorrection, h.1.1.2.2.2.2.1]), h.eq hw.2⟩
theorem sp_servers {r : Int32} (h : CL Mm t M) (hw : r = f_X5_servers M ∧ u = M) : r = nI (sn Mm) ∧ CL Mm t u := ⟨hw.1.trans (by rw [f_X5_servers, h.sv]), h.eq hw.2⟩
theorem sp_stra {r : Int32} (h : CL Mm t M) (hw : r = f_X5_stratum M ∧ u = M) : r = t ∧ CL Mm t u := ⟨hw.1.trans (by rw [f_X5_stratum, h.2.2.2]), h.eq hw.2⟩
theorem sp_steps {r : Int32} (h : CL Mm t M) (hw : r = f_X5_steps M ∧ u = M) : r = gI Mm 3 ∧ CL Mm t u := ⟨hw.1.trans (by rw [f_X5_steps, h.1.1.2.2.2.2.2.1]), h.eq hw.2⟩
theorem sp_syncs {r : Int32} (h : CL Mm t M) (hw : r = f_X5_synchronizations M ∧ u = M) : r = gI Mm 4 ∧ CL Mm t u := ⟨hw.1.trans (by rw [f_X5_synchronizations, h.1.1.2.2.2.2.2.2.1]), h.eq hw.2⟩
theorem sp_agreeing {r : Int32} (h : CL Mm t M) (hw : (r, u) = f_X5_agreeing M) : r = agS Mm ∧ CL Mm t u := ⟨(sp_sel h c_21 hw).1.trans (kp_21 h.2.1.nb h.2.2.1 h.1), (sp_sel h c_21 hw).2⟩
theorem sp_surv {r : Int32} (h : CL Mm t M) (hw : (r, u) = f_X5_survivors M) : r = svS Mm ∧ CL Mm t u := ⟨(sp_sel h c_24 hw).1.trans (kp_24 h.2.1.nb h.2.2.1 h.1), (sp_sel h c_24 hw).2⟩
theorem SEL_of (h : CL Mm t M) : SEL M Mm (f_X5_select M) (f_X6_select Mm) := sel_both h.2.1.nb h.2.2.1 h.1
theorem sp_peer {r : Int32} (h : CL Mm t M) (hw : (r, u) = f_X5_peer M) : r = pe Mm ∧ CL Mm t u := by
  refine ⟨(sp_sel h c_26 hw).1.trans ?_, (sp_sel h c_26 hw).2⟩
  simp -implicitDefEqProofs (disch := decide) only [f_X5_peer, bnd_e, bnd2_e]
  exact pf_eq (SEL_of h).2.2.1
theorem ag_bit (h : CL Mm t M) : B8 (gI (f_X5_select M) 9) ∧ ∀ e, e < 8 → bt (gI (f_X5_select M) 9) e = agF Mm e := by
  obtain ⟨-, -, -, b9, hA, -⟩ := SEL_of h
  refine ⟨b9, fun e he => ?_⟩
  by_cases c : bt (gI (f_X5_select M) 9) e = true
  · rw [c, agF, decide_eq_true ((hA e he).mp c)]
  · rw [agF, decide_eq_false (fun q => c ((hA e he).mpr q))]; simpa using c
theorem sv_bit (h : CL Mm t M) : B8 (gI (f_X5_select M) 10) ∧ ∀ e, e < 8 → bt (gI (f_X5_select M) 10) e = svF Mm e := by
  obtain ⟨-, -, hS, -⟩ := SEL_of h
  refine ⟨hS.2.2.1, fun e he => ?_⟩
  by_cases c : bt (gI (f_X5_select M) 10) e = true
  · rw [c, svF, decide_eq_true ((hS.2.2.2.1 e he).mp c)]
  · rw [svF, decide_eq_false (fun q => c ((hS.2.2.2.1 e he).mpr q))]; simpa using c
theorem agS_bit (h : CL Mm t M) : B8 (agS Mm) ∧ ∀ e, e < 8 → bt (agS Mm) e = agF Mm e := by
  have e : agS Mm = gI (f_X5_select M) 9 := by
    rw [agS, ← kp_21 h.2.1.nb h.2.2.1 h.1]
    simp -implicitDefEqProofs (disch := decide) only [f_X5_agreeing, f_X3_agreeingBits, bnd_e, bnd2_e]
  rw [e]; exact ag_bit h
theorem svS_bit (h : CL Mm t M) : B8 (svS Mm) ∧ ∀ e, e < 8 → bt (svS Mm) e = svF Mm e := by
  have e : svS Mm = gI (f_X5_select M) 10 := by
    rw [svS, ← kp_24 h.2.1.nb h.2.2.1 h.1]
    simp -implicitDefEqProofs (disch := decide) only [f_X5_survivors, f_X3_survivorBits, bnd_e, bnd2_e]
  rw [e]; exact sv_bit h
theorem ag_cnt (h : CL Mm t M) : f_J6_bitCount_0f7a4 (gI (f_X5_select M) 9) = nI (AN Mm) := bitc_of (ag_bit h).1 (ag_bit h).2
theorem cn_cnt (h : CL Mm t M) : f_J6_bitCount_0f7a4 (gI (f_X5_select M) 8) = nI (CN Mm) := bitc_of (SEL_of h).2.2.1.1.1 (SEL_of h).2.2.1.1.2.1
theorem cn_zero (h : CL Mm t M) : gI (f_X5_select M) 8 = 0 ↔ CN Mm = 0 := by
  have hR := (SEL_of h).2.2.1.1
  constructor
  · intro q
    have e := cn_cnt h
    rw [q] at e
    have h8 := bc_le (cnd Mm) 8
    exact (nI_eq (a := CN Mm) (b := 0) (by show bc (cnd Mm) 8 < _; omega) (by decide)).mp (e.symm.trans (by decide))
  · intro q
    have hz := bc_zero 8 q
    exact B8_ext hR.1 B8_0 (fun e he => by rw [hR.2.1 e he, hz e he, b_0])
theorem AN_le (Mm : Mem) : AN Mm ≤ 8 := bc_le _ 8
theorem CN_le (Mm : Mem) : CN Mm ≤ 8 := bc_le _ 8
theorem SN_le (Mm : Mem) : SN Mm ≤ 8 := bc_le _ 8
theorem sp_agmt {r : Int32} (h : CL Mm t M) (hw : (r, u) = f_X5_agreement M) : r = nI (AN Mm) ∧ CL Mm t u := by
  refine ⟨(sp_sel h c_19 hw).1.trans ?_, (sp_sel h c_19 hw).2⟩
  simp -implicitDefEqProofs (disch := decide) only [f_X5_agreement, f_X3_agreed, bnd_e, bnd2_e]
  exact ag_cnt h
theorem mul2_nI {n : Nat} : (2 : Int32) * nI n = nI (2 * n) := pk_mul 2 n
theorem maj_v (h : CL Mm t M) : f_X3_isMajority (f_X5_select M) = mjV Mm := by
  simp -implicitDefEqProofs (disch := decide) only [f_X3_isMajority, f_X3_agreed, bnd_e, bnd2_e, ag_cnt h, cn_cnt h]
  have h1 := AN_le Mm
  have h2 := CN_le Mm
  rw [mul2_nI, mjV]
  have e : nI (CN Mm) < nI (2 * AN Mm) ↔ CN Mm < 2 * AN Mm := nI_ltI (by omega) (by omega)
  by_cases c : CN Mm < 2 * AN Mm
  · rw [if_pos (e.mpr c), if_pos c]
  · rw [if_neg (fun q => c (e.mp q)), if_neg c]
theorem sp_maj {r : Int32} (h : CL Mm t M) (hw : (r, u) = f_X5_hasMajority M) : r = mjV Mm ∧ CL Mm t u := by
  refine ⟨(sp_sel h c_20 hw).1.trans ?_, (sp_sel h c_20 hw).2⟩
  simp -implicitDefEqProofs (disch := decide) only [f_X5_hasMajority, bnd_e, bnd2_e]
  exact maj_v h
/-! the short methods of the law -/
theorem wL_thr' {r : Int64} {n : Nat} {M1 : Mem} (hw : (r, u) = wL (n, 0, M1)) (hn : n ≠ 0) : r = exL n ∧ u = M1 := by
  rw [wL, if_neg hn] at hw; exact ⟨congrArg Prod.fst hw, congrArg Prod.snd hw⟩
theorem wI_thr' {r : Int32} {n : Nat} {M1 : Mem} (hw : (r, u) = wI (n, 0, M1)) (hn : n ≠ 0) : r = exI n ∧ u = M1 := by
  rw [wI, if_neg hn] at hw; exact ⟨congrArg Prod.fst hw, congrArg Prod.snd hw⟩
theorem wV_thr' {r : Int32} {n : Nat} {M1 : Mem} (hw : (r, u) = wV (n, M1)) (hn : n ≠ 0) : r = exI n ∧ u = M1 := by
  rw [wV, if_neg hn] at hw; exact ⟨congrArg Prod.fst hw, congrArg Prod.snd hw⟩
theorem wL_ok {r v : Int64} {M1 : Mem} (hw : (r, u) = wL (0, v, M1)) : r = v ∧ u = M1 := by
  rw [wL, if_pos rfl] at hw; exact ⟨congrArg Prod.fst hw, congrArg Prod.snd hw⟩
theorem wI_ok {r v : Int32} {M1 : Mem} (hw : (r, u) = wI (0, v, M1)) : r = v ∧ u = M1 := by
  rw [wI, if_pos rfl] at hw; exact ⟨congrArg Prod.fst hw, congrArg Prod.snd hw⟩
theorem wV_ok {r : Int32} {M1 : Mem} (hw : (r, u) = wV (0, M1)) : r = 0 ∧ u = M1 := by
  rw [wV, if_pos rfl] at hw; exact ⟨congrArg Prod.fst hw, congrArg Prod.snd hw⟩
theorem sp_low {r : Int64} (h : CL Mm t M) (hw : (r, u) = wL (f_X5_low M)) : r = loA Mm ∧ CL Mm t u := by
  by_cases c : CN Mm = 0
  · rw [f_X5_low, sfs_0 ((cn_zero h).mpr c), thv_no (by decide)] at hw
    obtain ⟨e1, e2⟩ := wL_thr' hw (by decide)
    exact ⟨by rw [e1, loA, if_pos c]; rfl, by rw [e2]; exact h.ec EC_select⟩
  · have c' : ¬ gI (f_X5_select M) 8 = 0 := fun q => c ((cn_zero h).mp q)
    rw [f_X5_low, sfs_1 c', thv_yes, bnd_e, f_X3_lowEnd] at hw
    obtain ⟨e1, e2⟩ := wL_ok hw
    have hS := SEL_of h
    exact ⟨by rw [e1, loA, if_neg c, lo]; exact (hS.2.2.2.2.2.2.2.2 (fun q => c' (hS.2.2.2.2.2.2.2.1.mpr q))).1, by rw [e2]; exact h.ec EC_select⟩
theorem sp_high {r : Int64} (h : CL Mm t M) (hw : (r, u) = wL (f_X5_high M)) : r = hiA Mm ∧ CL Mm t u := by
  by_cases c : CN Mm = 0
  · rw [f_X5_high, sfs_0 ((cn_zero h).mpr c), thv_no (by decide)] at hw
    obtain ⟨e1, e2⟩ := wL_thr' hw (by decide)
    exact ⟨by rw [e1, hiA, if_pos c]; rfl, by rw [e2]; exact h.ec EC_select⟩
  · have c' : ¬ gI (f_X5_select M) 8 = 0 := fun q => c ((cn_zero h).mp q)
    rw [f_X5_high, sfs_1 c', thv_yes, bnd_e, f_X3_highEnd] at hw
    obtain ⟨e1, e2⟩ := wL_ok hw
    have hS := SEL_of h
    exact ⟨by rw [e1, hiA, if_neg c, hi]; exact (hS.2.2.2.2.2.2.2.2 (fun q => c' (hS.2.2.2.2.2.2.2.1.mpr q))).2, by rw [e2]; exact h.ec EC_select⟩
theorem some_sv (h : CL Mm t M) (c : ¬ CN Mm = 0) : ∃ j, j < 8 ∧ ¬ gB (f_X6_select Mm) 7 j = 0 := by
  have hS := SEL_of h
  exact (DP_of h.2.1.nb h.2.2.1).1 _ rfl (fun q => c ((cn_zero h).mp (hS.2.2.2.2.2.2.2.1.mpr q)))
theorem sp_comb {r : Int64} (h : CL Mm t M) (hw : (r, u) = wL (f_X5_combinedOffset M)) : r = meA Mm ∧ CL Mm t u := by
  by_cases c : CN Mm = 0
  · rw [f_X5_combinedOffset, sfs_0 ((cn_zero h).mpr c), thv_no (by decide)] at hw
    obtain ⟨e1, e2⟩ := wL_thr' hw (by decide)
    exact ⟨by rw [e1, meA, if_pos c]; rfl, by rw [e2]; exact h.ec EC_select⟩
  · have c' : ¬ gI (f_X5_select M) 8 = 0 := fun q => c ((cn_zero h).mp q)
    rw [f_X5_combinedOffset, sfs_1 c', thv_yes, bnd_e] at hw
    obtain ⟨e1, e2⟩ := wL_ok hw
    exact ⟨by rw [e1, meA, if_neg c, mean]; exact co_eq h.2.1.nb h.2.2.1 (SEL_of h).2.2.1 (some_sv h c), by rw [e2]; exact h.ec EC_select⟩
/-! refused -/
theorem wi_out {x a b : Int32} (h : x.toInt < a.toInt ∨ b.toInt < x.toInt) : f_X5_isWithin x a b = 0 := by
  rw [f_X5_isWithin]
  by_cases c : x < a
  · rw [if_pos c]
  · rw [if_neg c]
    have h2 : b < x := i_lt.mpr (h.elim (fun q => absurd (i_lt.mpr q) c) id)
    rw [if_pos h2]
theorem sp_start_no {r p : Int32} (h : CL Mm t M) (hp : f_X5_isWithin p (-1000000000) 1000000000 = 0) (hw : (r, u) = wV (f_X5_restart M p)) : r = -9999002 ∧ CL Mm t u := by
  rw [rst5, if_pos hp] at hw
  obtain ⟨e1, e2⟩ := wV_thr' hw (by decide)
  exact ⟨e1, h.eq e2⟩
theorem sp_pass_no {r : Int64} {p : Int32} (h : CL Mm t M) (hp : f_X5_isWithin p 1 1000000000 = 0) (hw : (r, u) = wL (f_X5_pass M p)) : r = -9999002 ∧ CL Mm t u := by
  rw [pass5, if_pos hp] at hw
  obtain ⟨e1, e2⟩ := wL_thr' hw (by decide)
  exact ⟨e1, h.eq e2⟩
theorem sp_drift_no {r p : Int32} (h : CL Mm t M) (hp : f_X5_isWithin p (-300) 300 = 0) (hw : (r, u) = wI (f_X5_setDrift M p)) : r = -9999002 ∧ CL Mm t u := by
  rw [drift5, if_pos hp] at hw
  obtain ⟨e1, e2⟩ := wI_thr' hw (by decide)
  exact ⟨e1, h.eq e2⟩
theorem sp_ann_no {r : Int64} {p b : Int32} (h : CL Mm t M) (hp : f_X5_isWithin p 0 20 = 0) (hw : (r, u) = wL (f_X5_announceLeap M p b)) : r = -9999002 ∧ CL Mm t u := by
  rw [ann5, if_pos hp] at hw
  obtain ⟨e1, e2⟩ := wL_thr' hw (by decide)
  exact ⟨e1, h.eq e2⟩
theorem sp_add_no {r p0 p1 p2 p3 : Int32} (h : CL Mm t M) (hp : ¬ okS p0 p1 p2 p3) (hw : (r, u) = wI (f_X5_addServer M p0 p1 p2 p3)) : r = -9999002 ∧ CL Mm t u := by
  rw [add5_no hp] at hw
  obtain ⟨e1, e2⟩ := wI_thr' hw (by decide)
  exact ⟨e1, h.eq e2⟩
theorem sp_add_full {r p0 p1 p2 p3 : Int32} (h : CL Mm t M) (hp : okS p0 p1 p2 p3) (h8 : ¬ nI (sn Mm) < 8) (hw : (r, u) = wI (f_X5_addServer M p0 p1 p2 p3)) : r = -9999003 ∧ CL Mm t u := by
  rw [add5_full hp (by rw [h.sv]; exact h8)] at hw
  obtain ⟨e1, e2⟩ := wI_thr' hw (by decide)
  exact ⟨e1, h.eq e2⟩
theorem sp_sync_no {r : Int32} (h : CL Mm t M) (hm : mjV Mm = 0) (hw : (r, u) = wI (f_X5_synchronize M)) : r = -9999003 ∧ CL Mm t u := by
  have e : f_X5_synchronize M = (2, 0, f_X5_select M) := by
    simp -implicitDefEqProofs (disch := decide) only [f_X5_synchronize, bnd_e, bnd2_e, maj_v h, hm, if_true]
  rw [e] at hw
  obtain ⟨e1, e2⟩ := wI_thr' hw (by decide)
  exact ⟨e1, by rw [e2]; exact h.ec EC_select⟩
/-! no such server -/
def noS (Mm : Mem) (x : Int32) : Prop := x.toInt < 0 ∨ (sn Mm : Int) ≤ x.toInt
theorem srv_no {x : Int32} (h : CL Mm t M) (hx : noS Mm x) : f_X5_serverOrNull M x = none := by
  rcases srv_eq h.2.2.1 h.1.1.2.2.2.2.2.2.2.2 x with ⟨h1, -⟩ | ⟨j, hj, hj8, rfl, h1, -⟩
  · exact h1
  · exfalso
    have e := nI_toInt (n := j) (by omega)
    rcases hx with q | q <;> rw [e] at q <;> omega
theorem srv_yes {j : Nat} (h : CL Mm t M) (hj : j < sn Mm) : f_X5_serverOrNull M (nI j) = some j := by
  have h8 := h.s8
  rcases srv_eq h.2.2.1 h.1.1.2.2.2.2.2.2.2.2 (nI j) with ⟨h1, -⟩ | ⟨i, hi, hi8, e, h1, -⟩
  · exfalso
    have hlt : nI j < gI M 0 := by rw [h.sv]; exact nI_lt (b := sn Mm) hj (by omega)
    rw [f_X5_serverOrNull, if_pos hlt, room_e (by omega), opt_some rfl] at h1
    cases h1
  · have : j = i := (nI_eq (a := j) (b := i) (by omega) (by omega)).mp e
    rw [this] at h1 ⊢
    exact h1
theorem sp_ch_no {r x y : Int32} (h : CL Mm t M) (hx : noS Mm x) (hw : (r, u) = wI (f_X5_setError M x y)) : r = -9999001 ∧ CL Mm t u := by
  rw [err5_no (srv_no h hx)] at hw
  obtain ⟨e1, e2⟩ := wI_thr' hw (by decide)
  exact ⟨e1, h.eq e2⟩
theorem sp_ch_arg {r y : Int32} {j : Nat} (h : CL Mm t M) (hj : j < sn Mm) (hy : f_X5_isWithin y (-1000000) 1000000 = 0) (hw : (r, u) = wI (f_X5_setError M (nI j) y)) : r = -9999002 ∧ CL Mm t u := by
  rw [err5_yes (srv_yes h hj), if_pos hy] at hw
  obtain ⟨e1, e2⟩ := wI_thr' hw (by decide)
  exact ⟨e1, h.eq e2⟩
theorem sp_ex_no {r : Int64} {x a b c : Int32} (h : CL Mm t M) (hx : noS Mm x) (hw : (r, u) = wL (f_X5_exchange M x a b c)) : r = -9999001 ∧ CL Mm t u := by
  rw [f_X5_exchange, kn_no (srv_no h hx), thn_no (by decide)] at hw
  obtain ⟨e1, e2⟩ := wL_thr' hw (by decide)
  exact ⟨e1, h.eq e2⟩
theorem sp_ex_arg {r : Int64} {a b c : Int32} {j : Nat} (h : CL Mm t M) (hj : j < sn Mm) (hy : ¬ okX a b c) (hw : (r, u) = wL (f_X5_exchange M (nI j) a b c)) : r = -9999002 ∧ CL Mm t u := by
  rw [exc_2 (srv_yes h hj) hy] at hw
  obtain ⟨e1, e2⟩ := wL_thr' hw (by decide)
  exact ⟨e1, h.eq e2⟩
theorem sp_sa_no {r x : Int32} (h : CL Mm t M) (hx : noS Mm x) (hw : (r, u) = wI (f_X5_samples M x)) : r = -9999001 ∧ CL Mm t u := by
  rw [f_X5_samples, kn_no (srv_no h hx), thn_no (by decide)] at hw
  obtain ⟨e1, e2⟩ := wI_thr' hw (by decide)
  exact ⟨e1, h.eq e2⟩
theorem sp_of_no {r : Int64} {x : Int32} (h : CL Mm t M) (hx : noS Mm x) (hw : (r, u) = wL (f_X5_offset M x)) : r = -9999001 ∧ CL Mm t u := by
  rw [f_X5_offset, hr_no (srv_no h hx), thn_no (by decide)] at hw
  obtain ⟨e1, e2⟩ := wL_thr' hw (by decide)
  exact ⟨e1, h.eq e2⟩
theorem sp_de_no {r : Int64} {x : Int32} (h : CL Mm t M) (hx : noS Mm x) (hw : (r, u) = wL (f_X5_delay M x)) : r = -9999001 ∧ CL Mm t u := by
  rw [f_X5_delay, hr_no (srv_no h hx), thn_no (by decide)] at hw
  obtain ⟨e1, e2⟩ := wL_thr' hw (by decide)
  exact ⟨e1, h.eq e2⟩
theorem sp_ji_no {r : Int64} {x : Int32} (h : CL Mm t M) (hx : noS Mm x) (hw : (r, u) = wL (f_X5_jitter M x)) : r = -9999001 ∧ CL Mm t u := by
  rw [f_X5_jitter, hr_no (srv_no h hx), thn_no (by decide)] at hw
  obtain ⟨e1, e2⟩ := wL_thr' hw (by decide)
  exact ⟨e1, h.eq e2⟩
theorem sp_di_no {r : Int64} {x : Int32} (h : CL Mm t M) (hx : noS Mm x) (hw : (r, u) = wL (f_X5_distance M x)) : r = -9999001 ∧ CL Mm t u := by
  rw [f_X5_distance, hr_no (srv_no h hx), thn_no (by decide)] at hw
  obtain ⟨e1, e2⟩ := wL_thr' hw (by decide)
  exact ⟨e1, h.eq e2⟩
/-! a server that is there -/
theorem sp_samples {r : Int32} {j : Nat} (h : CL Mm t M) (hj : j < sn Mm) (hw : (r, u) = wI (f_X5_samples M (nI j))) : r = nI (kn Mm j) ∧ CL Mm t u := by
  rw [f_X5_samples, kn_yes (srv_yes h hj), thn_yes, bnd_e, f_X4_kept] at hw
  obtain ⟨e1, e2⟩ := wI_ok hw
  exact ⟨e1.trans (h.1.2.2 j hj).2.2.2.2.1, h.eq e2⟩
theorem hr_e {j : Nat} (h : CL Mm t M) (hj : j < sn Mm) : f_X5_heardServer M (nI j) = if 0 < kn Mm j then (0, j, M) else (2, 0, M) := by
  have h8 := (WFk h.2.2.1 (Nat.lt_of_lt_of_le hj h.s8)).1
  have z : nI (kn Mm j) = 0 ↔ kn Mm j = 0 := nI_eq (b := 0) (by omega) (by decide)
  rw [f_X5_heardServer, kn_yes (srv_yes h hj), thn_yes, bnd_e, f_X4_kept, (h.1.2.2 j hj).2.2.2.2.1]
  by_cases c : 0 < kn Mm j
  · rw [if_pos c, if_neg (fun q => by have := z.mp q; omega)]
  · rw [if_neg c, if_pos (z.mpr (by omega))]
theorem sp_offset {r : Int64} {j : Nat} (h : CL Mm t M) (hj : j < sn Mm) (hw : (r, u) = wL (f_X5_offset M (nI j))) : r = oA Mm j ∧ CL Mm t u := by
  have hj8 := Nat.lt_of_lt_of_le hj h.s8
  rw [f_X5_offset, hr_e h hj] at hw
  rw [oA]
  by_cases c : 0 < kn Mm j
  · rw [if_pos c, thn_yes, bnd_e] at hw
    obtain ⟨e1, e2⟩ := wL_ok hw
    rw [if_pos c]
    exact ⟨e1.trans (bo_eq (h.1.2.2 j hj) hj8 (WFk h.2.2.1 hj8).1 c), h.eq e2⟩
  · rw [if_neg c, thn_no (by decide)] at hw
    obtain ⟨e1, e2⟩ := wL_thr' hw (by decide)
    rw [if_neg c]
    exact ⟨e1, h.eq e2⟩
theorem sp_delay {r : Int64} {j : Nat} (h : CL Mm t M) (hj : j < sn Mm) (hw : (r, u) = wL (f_X5_delay M (nI j))) : r = dA Mm j ∧ CL Mm t u := by
  have hj8 := Nat.lt_of_lt_of_le hj h.s8
  rw [f_X5_delay, hr_e h hj] at hw
  rw [dA]
  by_cases c : 0 < kn Mm j
  · rw [if_pos c, thn_yes, bnd_e] at hw
    obtain ⟨e1, e2⟩ := wL_ok hw
    rw [if_pos c]
    exact ⟨e1.trans (bd_eq (h.1.2.2 j hj) hj8 (WFk h.2.2.1 hj8).1 c), h.eq e2⟩
  · rw [if_neg c, thn_no (by decide)] at hw
    obtain ⟨e1, e2⟩ := wL_thr' hw (by decide)
    rw [if_neg c]
    exact ⟨e1, h.eq e2⟩
theorem sp_jitter {r : Int64} {j : Nat} (h : CL Mm t M) (hj : j < sn Mm) (hw : (r, u) = wL (f_X5_jitter M (nI j))) : r = jA Mm j ∧ CL Mm t u := by
  have hj8 := Nat.lt_of_lt_of_le hj h.s8
  rw [f_X5_jitter, hr_e h hj] at hw
  rw [jA]
  by_cases c : 0 < kn Mm j
  · rw [if_pos c, thn_yes, bnd_e] at hw
    obtain ⟨e1, e2⟩ := wL_ok hw
    rw [if_pos c]
    exact ⟨e1.trans (ji_eq (h.1.2.2 j hj) hj8 (WFk h.2.2.1 hj8).1 c), h.eq e2⟩
  · rw [if_neg c, thn_no (by decide)] at hw
    obtain ⟨e1, e2⟩ := wL_thr' hw (by decide)
    rw [if_neg c]
    exact ⟨e1, h.eq e2⟩
theorem sp_distance {r : Int64} {j : Nat} (h : CL Mm t M) (hj : j < sn Mm) (hw : (r, u) = wL (f_X5_distance M (nI j))) : r = tA Mm j ∧ CL Mm t u := by
  have hj8 := Nat.lt_of_lt_of_le hj h.s8
  rw [f_X5_distance, hr_e h hj] at hw
  rw [tA]
  by_cases c : 0 < kn Mm j
  · rw [if_pos c, thn_yes, bnd_e, bnd_e, RS_rd h.1.1] at hw
    obtain ⟨e1, e2⟩ := wL_ok hw
    rw [if_pos c]
    exact ⟨e1.trans (di_eq (h.1.2.2 j hj) hj8 (WFk h.2.2.1 hj8).1 c (h.2.1.2 j hj).2.1.1), h.eq e2⟩
  · rw [if_neg c, thn_no (by decide)] at hw
    obtain ⟨e1, e2⟩ := wL_thr' hw (by decide)
    rw [if_neg c]
    exact ⟨e1, h.eq e2⟩
end SP
