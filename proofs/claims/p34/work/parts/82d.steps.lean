section ST4
variable {Mm M u : Mem} {t : Int32}
/-! pass -/
theorem sp_passed {r : Int64} {p : Int32} (h : CL Mm t M) (h0 : 1 ≤ p.toInt ∧ p.toInt ≤ 1000000000) (hm : nowI Mm + p.toInt ≤ 1000000000000) (hw : (r, u) = wL (f_X5_pass M p)) : r = f_X6_reading (f_X6_goOn Mm p) ∧ CL (f_X6_goOn Mm p) t u := by
  have c1 : ¬ f_X5_isWithin p 1 1000000000 = 0 := by
    rw [f_X5_isWithin, if_neg (fun q => by have := i_lt.mp q; rw [show (1 : Int32).toInt = 1 by decide] at this; omega), if_neg (fun q => by have := i_lt.mp q; rw [show (1000000000 : Int32).toInt = 1000000000 by decide] at this; omega)]
    decide
  have c2 : ¬ (1000000000000 : Int64) < gL M 0 + p.toInt64 := fun q => by
    have q := l_lt.mp q
    have n0 : 0 ≤ (gL Mm 0).toInt ∧ (gL Mm 0).toInt ≤ 1000000000000 := h.2.1.1.1
    have hm' : (gL Mm 0).toInt + p.toInt ≤ 1000000000000 := hm
    rw [h.1.1.1, l_add (by rw [Int32.toInt_toInt64]; omega), Int32.toInt_toInt64, max_i] at q
    omega
  rw [pass5, if_neg c1, if_neg c2] at hw
  obtain ⟨e1, e2⟩ := wL_ok hw
  have hR := RR_go (t := p) (by omega) h.1
  refine ⟨e1.trans (RS_rd hR.1), by rw [e2]; exact hR, NI_go h.2.1 ⟨by omega, h0.2⟩ hm, WF_go h.2.2.1, by rw [e2, el_I (by omega)]; exact h.2.2.2⟩
theorem rd_go {p : Int32} (n : NI Mm) (h0 : 0 ≤ p.toInt ∧ p.toInt ≤ 1000000000) : (f_X6_reading Mm).toInt ≤ (f_X6_reading (f_X6_goOn Mm p)).toInt ∧ nowI (f_X6_goOn Mm p) = nowI Mm + p.toInt := by
  obtain ⟨e0, e, e1, e2, e3⟩ := go_num n.1 h0
  refine ⟨?_, e0⟩
  rw [rd_i, rd_i, e1]
  omega
theorem good_pass {p : Int32} (h : CL Mm t M) (g : CL (f_X6_goOn Mm p) t u) (h0 : 0 ≤ p.toInt ∧ p.toInt ≤ 1000000000) : GOOD Mm (f_X6_goOn Mm p) := by
  obtain ⟨h1, h2⟩ := rd_go h.2.1 h0
  exact good_of h g h1 go_B (by rw [h2]; omega)
end ST4
