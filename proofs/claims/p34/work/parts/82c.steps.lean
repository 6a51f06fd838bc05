section ST3
variable {Mm M u : Mem} {t : Int32}
/-! setDrift, announceLeap -/
theorem s1_drift {a : Int32} (h : CL Mm t M) : gI (f_X5_setDrift M a).2.2 1 = t := by
  rw [drift5]
  by_cases c : f_X5_isWithin a (-300) 300 = 0
  · rw [if_pos c]; exact h.2.2.2
  · rw [if_neg c]
    dsimp only
    rw [gI_ne (by decide)]; exact h.2.2.2
theorem wf_2 {a : Int32} (w : WFm Mm) : WFa (f_X6_setDrift Mm a).2 := by
  rw [drift6]
  by_cases c : f_X5_isWithin a (-300) 300 = 0
  · rw [if_pos c]; exact (WFm_sI w (by decide)).a
  · rw [if_neg c]; exact (WFm_sI (WFm_sI w (by decide)) (by decide)).a
theorem sp_drifts {r a : Int32} (h : CL Mm t M) (hw : (r, u) = wI (f_X5_setDrift M a)) : r = ansI bkI (f_X6_setDrift Mm a) ∧ CL (nrm (f_X6_setDrift Mm a).2) t u := by
  obtain ⟨e1, e2⟩ := u_I hw
  refine ⟨e1.trans (ans_I (kp_2 h.1.1) (f_X5_setDrift_c M a) (one_of ⟨by decide, by decide⟩)), ?_⟩
  exact CL_mk (by rw [e2]; exact r_2 h.1) (ni_2 h.2.1) (wf_2 h.2.2.1) (by rw [e2]; exact s1_drift h)
theorem good_drift {a : Int32} (h : CL Mm t M) (g : CL (nrm (f_X6_setDrift Mm a).2) t u) : GOOD Mm (nrm (f_X6_setDrift Mm a).2) := by
  rw [drift6] at g ⊢
  by_cases c : f_X5_isWithin a (-300) 300 = 0
  · rw [if_pos c] at g ⊢
    exact good_same h g (by rw [L_nrm, gL_sI]) (by rw [L_nrm, gL_sI]) (by rw [B_nrm (by decide) (by decide), gB_sI])
  · rw [if_neg c] at g ⊢
    exact good_same h g (by rw [L_nrm, gL_sI, gL_sI]) (by rw [L_nrm, gL_sI, gL_sI]) (by rw [B_nrm (by decide) (by decide), gB_sI, gB_sI])
theorem s1_ann {a b : Int32} (h : CL Mm t M) : gI (f_X5_announceLeap M a b).2.2 1 = t := by
  rw [ann5]
  repeat' split
  all_goals first | exact h.2.2.2 | (dsimp only; rw [gI_ne (by decide)]; exact h.2.2.2)
theorem wf_8 {a b : Int32} (w : WFm Mm) : WFa (f_X6_announceLeap Mm a b).2 := by
  rw [ann6]
  repeat' split
  all_goals first | exact (WFm_sI w (by decide)).a | exact (WFm_sB (WFm_sI w (by decide)) (by decide)).a
theorem sp_announced {r : Int64} {a b : Int32} (h : CL Mm t M) (hw : (r, u) = wL (f_X5_announceLeap M a b)) : r = ansL bkL (f_X6_announceLeap Mm a b) ∧ CL (nrm (f_X6_announceLeap Mm a b).2) t u := by
  obtain ⟨e1, e2⟩ := u_L hw
  refine ⟨e1.trans (ans_L (kp_8 h.1.1 h.1.2.1) (f_X5_announceLeap_c M a b) (two_of ⟨by decide, by decide⟩ ⟨by decide, by decide⟩)), ?_⟩
  exact CL_mk (by rw [e2]; exact r_8 h.1) (ni_8 h.2.1) (wf_8 h.2.2.1) (by rw [e2]; exact s1_ann h)
theorem sG_cg {f g : Nat → Int} {R : Int} : ∀ n, (∀ i, i < n → f i * pt i R = g i * pt i R) → sG f n R = sG g n R
  | 0, _ => rfl
  | n + 1, h => by rw [sG, sG, sG_cg n (fun i hi => h i (by omega)), h n (by omega)]
theorem good_ann {a b : Int32} (h : CL Mm t M) (g : CL (nrm (f_X6_announceLeap Mm a b).2) t u) : GOOD Mm (nrm (f_X6_announceLeap Mm a b).2) := by
  rw [ann6] at g ⊢
  by_cases c1 : f_X5_isWithin a 0 20 = 0
  · rw [if_pos c1] at g ⊢
    exact good_same h g (by rw [L_nrm, gL_sI]) (by rw [L_nrm, gL_sI]) (by rw [B_nrm (by decide) (by decide), gB_sI])
  · rw [if_neg c1] at g ⊢
    obtain ⟨d, hd, ed⟩ := day_of c1
    have ec : a.toNatClampNeg = d := by rw [ed, nI_clamp (by omega)]
    rw [ec] at g ⊢
    by_cases c2 : gB Mm 0 d = 0
    · rw [if_pos c2] at g ⊢
      by_cases c3 : f_X6_reading Mm < f_X6_smearFrom (nI d)
      · rw [if_pos c3] at g ⊢
        dsimp only at g ⊢
        have e1 : f_X6_reading (nrm (sB (sI Mm 0 0) 0 (upd (gB Mm 0) d (if b = 0 then 1 else -1)))) = f_X6_reading Mm := by rw [rd6, rd6, L_nrm, gL_sB, gL_sI]
        have e0 : nowI (nrm (sB (sI Mm 0 0) 0 (upd (gB Mm 0) d (if b = 0 then 1 else -1)))) = nowI Mm := by unfold nowI; rw [L_nrm, gL_sB, gL_sI]
        refine ⟨by rw [e1]; exact Int.le_refl _, ?_, by rw [e0]; omega⟩
        rw [civ_e h, civ_e g, e1]
        have hlt := l_lt.mp c3
        rw [smf_i hd] at hlt
        have : sG (gS (nrm (sB (sI Mm 0 0) 0 (upd (gB Mm 0) d (if b = 0 then 1 else -1))))) 21 (f_X6_reading Mm).toInt = sG (gS Mm) 21 (f_X6_reading Mm).toInt := by
          refine sG_cg 21 (fun i hi => ?_)
          by_cases e : i = d
          · rw [e, pt_low (by omega), Int.mul_zero, Int.mul_zero]
          · rw [gS, gS, if_pos hi, if_pos hi, B_nrm (by decide) (by decide), gB_eq, upd_ne e]
        rw [this]
        exact Int.le_refl _
      · rw [if_neg c3] at g ⊢
        exact good_same h g (by rw [L_nrm, gL_sI]) (by rw [L_nrm, gL_sI]) (by rw [B_nrm (by decide) (by decide), gB_sI])
    · rw [if_neg c2] at g ⊢
      exact good_same h g (by rw [L_nrm, gL_sI]) (by rw [L_nrm, gL_sI]) (by rw [B_nrm (by decide) (by decide), gB_sI])
end ST3
