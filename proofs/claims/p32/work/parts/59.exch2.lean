/-! the reference's exchange, whole -/
def okX (p1 p2 p3 : Int32) : Prop := ¬ f_X5_isWithin p1 0 500000 = 0 ∧ ¬ f_X5_isWithin p2 0 100000 = 0 ∧ ¬ f_X5_isWithin p3 0 500000 = 0
theorem okX_i {p1 p2 p3 : Int32} (h : okX p1 p2 p3) : (0 ≤ p1.toInt ∧ p1.toInt ≤ 500000) ∧ (0 ≤ p2.toInt ∧ p2.toInt ≤ 100000) ∧ (0 ≤ p3.toInt ∧ p3.toInt ≤ 500000) := by
  obtain ⟨h1, h2, h3⟩ := h
  have w1 := within_1 h1
  have w2 := within_1 h2
  have w3 := within_1 h3
  rw [show (0 : Int32).toInt = 0 by decide] at w1 w2 w3
  rw [show (500000 : Int32).toInt = 500000 by decide] at w1 w3
  rw [show (100000 : Int32).toInt = 100000 by decide] at w2
  exact ⟨w1, w2, w3⟩
theorem in_x {p1 p2 p3 : Int32} : f_X6_in p1.toInt64 0 500000 = f_X5_isWithin p1 0 500000 ∧ f_X6_in p2.toInt64 0 100000 = f_X5_isWithin p2 0 100000 ∧ f_X6_in p3.toInt64 0 500000 = f_X5_isWithin p3 0 500000 :=
  ⟨wi_in (by decide) (by decide), wi_in (by decide) (by decide), wi_in (by decide) (by decide)⟩
theorem exs_2 {M : Mem} {x p1 p2 p3 : Int32} (h : ¬ f_X6_isServer M x = 0) (hx : ¬ okX p1 p2 p3) : f_X6_exchange M x p1 p2 p3 = (0, sI M 0 2) := by
  obtain ⟨i1, i2, i3⟩ := in_x (p1 := p1) (p2 := p2) (p3 := p3)
  simp -implicitDefEqProofs (disch := decide) only [f_X6_exchange, bnd_e, bnd2_e, ref_e, i1, i2, i3, if_neg h]
  by_cases h1 : f_X5_isWithin p1 0 500000 = 0
  · rw [if_pos h1]
  · rw [if_neg h1]
    by_cases h2 : f_X5_isWithin p2 0 100000 = 0
    · rw [if_pos h2]
    · rw [if_neg h2]
      by_cases h3 : f_X5_isWithin p3 0 500000 = 0
      · rw [if_pos h3]
      · exact absurd ⟨h1, h2, h3⟩ hx
theorem exs_3 {M : Mem} {x p1 p2 p3 : Int32} (h : ¬ f_X6_isServer M x = 0) (hx : okX p1 p2 p3) (hm : (1000000000000 : Int64) < gL M 0 + p1.toInt64 + p2.toInt64 + p3.toInt64) : f_X6_exchange M x p1 p2 p3 = (0, sI M 0 3) := by
  obtain ⟨i1, i2, i3⟩ := in_x (p1 := p1) (p2 := p2) (p3 := p3)
  simp -implicitDefEqProofs (disch := decide) only [f_X6_exchange, bnd_e, bnd2_e, ref_e, i1, i2, i3, if_neg h, if_neg hx.1, if_neg hx.2.1, if_neg hx.2.2, if_pos hm]
def x1M (M : Mem) (p1 : Int32) : Mem := f_X6_goOn (sI M 0 0) p1
def x2M (M : Mem) (p1 p2 : Int32) : Mem := f_X6_goOn (x1M M p1) p2
def x3M (M : Mem) (p1 p2 p3 : Int32) : Mem := f_X6_goOn (x2M M p1 p2) p3
def xt2 (M : Mem) (j : Nat) (p1 : Int32) : Int64 := gL (x1M M p1) 0 + (gB (x1M M p1) 2 j).toInt64
def xt3 (M : Mem) (j : Nat) (p1 p2 : Int32) : Int64 := gL (x2M M p1 p2) 0 + (gB (x2M M p1 p2) 2 j).toInt64
def xdr (M : Mem) (j : Nat) (p1 p2 p3 : Int32) : Int64 := f_X6_reading (x3M M p1 p2 p3) - f_X6_reading M - (xt3 M j p1 p2 - xt2 M j p1)
def xdl (M : Mem) (j : Nat) (p1 p2 p3 : Int32) : Int64 := if xdr M j p1 p2 p3 < 0 then 0 else xdr M j p1 p2 p3
def xof (M : Mem) (j : Nat) (p1 p2 p3 : Int32) : Int64 := f_X6_down ((xt2 M j p1 - f_X6_reading M) + (xt3 M j p1 p2 - f_X6_reading (x3M M p1 p2 p3))) 2
theorem exs_4 {M : Mem} {j : Nat} {p1 p2 p3 : Int32} (hj : j < 8) (h : ¬ f_X6_isServer M (nI j) = 0) (hx : okX p1 p2 p3) (hm : ¬ (1000000000000 : Int64) < gL M 0 + p1.toInt64 + p2.toInt64 + p3.toInt64) :
    f_X6_exchange M (nI j) p1 p2 p3 = (xdl M j p1 p2 p3, f_X6_keep (x3M M p1 p2 p3) j (xof M j p1 p2 p3) (xdl M j p1 p2 p3) (f_X6_reading (x3M M p1 p2 p3))) := by
  obtain ⟨i1, i2, i3⟩ := in_x (p1 := p1) (p2 := p2) (p3 := p3)
  have hj' : (nI j).toNatClampNeg = j := nI_clamp (by omega)
  unfold xdl xof
  simp -implicitDefEqProofs (disch := decide) only [f_X6_exchange, bnd_e, bnd2_e, ref_e, i1, i2, i3, if_neg h, if_neg hx.1, if_neg hx.2.1, if_neg hx.2.2, if_neg hm, hj', rd_sI]
  have e1 : f_X6_goOn (sI M 0 0) p1 = x1M M p1 := by rw [x1M]
  have e2 : f_X6_goOn (x1M M p1) p2 = x2M M p1 p2 := by rw [x2M]
  have e3 : f_X6_goOn (x2M M p1 p2) p3 = x3M M p1 p2 p3 := by rw [x3M]
  rw [e1, e2, e3]
  have t2 : gL (x1M M p1) 0 + (gB (x1M M p1) 2 j).toInt64 = xt2 M j p1 := by rw [xt2]
  have t3 : gL (x2M M p1 p2) 0 + (gB (x2M M p1 p2) 2 j).toInt64 = xt3 M j p1 p2 := by rw [xt3]
  rw [t2, t3]
  have ed : f_X6_reading (x3M M p1 p2 p3) - f_X6_reading M - (xt3 M j p1 p2 - xt2 M j p1) = xdr M j p1 p2 p3 := by rw [xdr]
  rw [ed]
  by_cases c : xdr M j p1 p2 p3 < 0
  · rw [if_pos c, if_pos c]
  · rw [if_neg c, if_neg c]
theorem go_B {M : Mem} {t : Int32} {a : Nat} : gB (f_X6_goOn M t) a = gB M a := by rw [go6]; simp -implicitDefEqProofs (disch := decide) only [gL_eq, gL_ne, gI_eq, gI_ne, gB_eq, gB_ne, gJ_eq, gJ_ne, gL_sI, gI_sL, gI_sB, gI_sJ, gL_sB, gL_sJ, gB_sI, gB_sL, gB_sJ, gJ_sI, gJ_sL, gJ_sB]
theorem go_J {M : Mem} {t : Int32} {a : Nat} : gJ (f_X6_goOn M t) a = gJ M a := by rw [go6]; simp -implicitDefEqProofs (disch := decide) only [gL_eq, gL_ne, gI_eq, gI_ne, gB_eq, gB_ne, gJ_eq, gJ_ne, gL_sI, gI_sL, gI_sB, gI_sJ, gL_sB, gL_sJ, gB_sI, gB_sL, gB_sJ, gJ_sI, gJ_sL, gJ_sB]
theorem go_I {M : Mem} {t : Int32} {a : Nat} : gI (f_X6_goOn M t) a = gI M a := by rw [go6]; simp -implicitDefEqProofs (disch := decide) only [gL_eq, gL_ne, gI_eq, gI_ne, gB_eq, gB_ne, gJ_eq, gJ_ne, gL_sI, gI_sL, gI_sB, gI_sJ, gL_sB, gL_sJ, gB_sI, gB_sL, gB_sJ, gJ_sI, gJ_sL, gJ_sB]
theorem WF_go {M : Mem} {t : Int32} (w : WFm M) : WFm (f_X6_goOn M t) := by rw [go6]; exact WFm_sL (WFm_sL (WFm_sL w))
theorem x3_B {M : Mem} {p1 p2 p3 : Int32} {a : Nat} : gB (x3M M p1 p2 p3) a = gB M a := by rw [x3M, x2M, x1M, go_B, go_B, go_B, gB_sI]
theorem x3_J {M : Mem} {p1 p2 p3 : Int32} {a : Nat} : gJ (x3M M p1 p2 p3) a = gJ M a := by rw [x3M, x2M, x1M, go_J, go_J, go_J, gJ_sI]
theorem x3_I {M : Mem} {p1 p2 p3 : Int32} {a : Nat} (h : a ≠ 0) : gI (x3M M p1 p2 p3) a = gI M a := by rw [x3M, x2M, x1M, go_I, go_I, go_I, gI_ne h]
theorem x3_0 {M : Mem} {p1 p2 p3 : Int32} : gI (x3M M p1 p2 p3) 0 = 0 := by rw [x3M, x2M, x1M, go_I, go_I, go_I, gI_eq]
theorem x3_w {M : Mem} {p1 p2 p3 : Int32} (w : WFm M) : WFm (x3M M p1 p2 p3) := WF_go (WF_go (WF_go (WFm_sI w (by decide))))
theorem go_L0 {M : Mem} {t : Int32} : gL (f_X6_goOn M t) 0 = gL M 0 + t.toInt64 := by rw [go6]; simp -implicitDefEqProofs (disch := decide) only [gL_eq, gL_ne, gI_eq, gI_ne, gB_eq, gB_ne, gJ_eq, gJ_ne, gL_sI, gI_sL, gI_sB, gI_sJ, gL_sB, gL_sJ, gB_sI, gB_sL, gB_sJ, gJ_sI, gJ_sL, gJ_sB]
theorem max_3 {M : Mem} {p1 p2 p3 : Int32} (n : okG M) (hx : okX p1 p2 p3) : (1000000000000 : Int64) < gL M 0 + p1.toInt64 + p2.toInt64 + p3.toInt64 ↔ 1000000000000 < nowI M + p1.toInt + p2.toInt + p3.toInt := by
  obtain ⟨w1, w2, w3⟩ := okX_i hx
  have a := n.1
  have b1 : (gL M 0 + p1.toInt64).toInt = nowI M + p1.toInt := by unfold nowI at *; rw [l_add, Int32.toInt_toInt64]; rw [Int32.toInt_toInt64]; omega
  have b2 : (gL M 0 + p1.toInt64 + p2.toInt64).toInt = nowI M + p1.toInt + p2.toInt := by rw [l_add, b1, Int32.toInt_toInt64]; rw [b1, Int32.toInt_toInt64]; omega
  have b3 : (gL M 0 + p1.toInt64 + p2.toInt64 + p3.toInt64).toInt = nowI M + p1.toInt + p2.toInt + p3.toInt := by rw [l_add, b2, Int32.toInt_toInt64]; rw [b2, Int32.toInt_toInt64]; omega
  rw [l_lt, b3, max_i]
theorem half_i {v : Int64} : (f_X6_down v 2).toInt = v.toInt / 2 := by rw [dn_spec two_pos, show (2 : Int64).toInt = 2 by decide]
theorem sub_i {x y : Int64} (hx : -4000000000000 ≤ x.toInt ∧ x.toInt ≤ 4000000000000) (hy : -4000000000000 ≤ y.toInt ∧ y.toInt ≤ 4000000000000) : (x - y).toInt = x.toInt - y.toInt := l_sub (by omega)
theorem sub_add4 {x y z u : Int64} (hx : -4000000000000 ≤ x.toInt ∧ x.toInt ≤ 4000000000000) (hy : -4000000000000 ≤ y.toInt ∧ y.toInt ≤ 4000000000000) (hz : -4000000000000 ≤ z.toInt ∧ z.toInt ≤ 4000000000000) (hu : -4000000000000 ≤ u.toInt ∧ u.toInt ≤ 4000000000000) :
    ((x - y) + (z - u)).toInt = (x.toInt - y.toInt) + (z.toInt - u.toInt) := by
  have e1 := sub_i hx hy
  have e2 := sub_i hz hu
  rw [l_add (by rw [e1, e2]; omega), e1, e2]
theorem sub_sub4 {x y z u : Int64} (hx : -4000000000000 ≤ x.toInt ∧ x.toInt ≤ 4000000000000) (hy : -4000000000000 ≤ y.toInt ∧ y.toInt ≤ 4000000000000) (hz : -4000000000000 ≤ z.toInt ∧ z.toInt ≤ 4000000000000) (hu : -4000000000000 ≤ u.toInt ∧ u.toInt ≤ 4000000000000) :
    (x - y - (z - u)).toInt = (x.toInt - y.toInt) - (z.toInt - u.toInt) := by
  have e1 := sub_i hx hy
  have e2 := sub_i hz hu
  rw [l_sub (by rw [e1, e2]; omega), e1, e2]
theorem t_add {a b : Int64} {e : Int32} (ha : 0 ≤ a.toInt ∧ a.toInt ≤ 1000000000000) (he : -1000000 ≤ e.toInt ∧ e.toInt ≤ 1000000) (hb : b = a + e.toInt64) : b.toInt = a.toInt + e.toInt ∧ (-4000000000000 ≤ b.toInt ∧ b.toInt ≤ 4000000000000) := by
  have h : b.toInt = a.toInt + e.toInt := by rw [hb, l_add (by rw [Int32.toInt_toInt64]; omega), Int32.toInt_toInt64]
  exact ⟨h, by omega⟩
theorem rd_wide {M : Mem} (n : NI M) : -4000000000000 ≤ (f_X6_reading M).toInt ∧ (f_X6_reading M).toInt ≤ 4000000000000 := by
  have h := rd_rng n
  rw [rd_i]
  generalize picI M / 1000000 = z at h
  omega
theorem go_all {M : Mem} {t : Int32} (n : NI M) (h0 : 0 ≤ t.toInt ∧ t.toInt ≤ 1000000000) (hm : nowI M + t.toInt ≤ 1000000000000) : NI (f_X6_goOn M t) ∧ nowI (f_X6_goOn M t) = nowI M + t.toInt ∧ ∃ e : Int, picI (f_X6_goOn M t) = picI M + 1000000 * t.toInt + e ∧ -(1300 * t.toInt) ≤ e ∧ e ≤ 1300 * t.toInt :=
  ⟨NI_go n h0 hm, go_num n.1 h0⟩
theorem x_nums {M : Mem} {p1 p2 p3 : Int32} (n : NI M) (h1 : 0 ≤ p1.toInt ∧ p1.toInt ≤ 500000) (h2 : 0 ≤ p2.toInt ∧ p2.toInt ≤ 100000) (h3 : 0 ≤ p3.toInt ∧ p3.toInt ≤ 500000) (hm : nowI M + p1.toInt + p2.toInt + p3.toInt ≤ 1000000000000) :
    (NI (x1M M p1) ∧ nowI (x1M M p1) = nowI M + p1.toInt) ∧ (NI (x2M M p1 p2) ∧ nowI (x2M M p1 p2) = nowI M + p1.toInt + p2.toInt) ∧ (NI (x3M M p1 p2 p3) ∧ nowI (x3M M p1 p2 p3) = nowI M + p1.toInt + p2.toInt + p3.toInt) ∧
    ∃ e : Int, picI (x3M M p1 p2 p3) = picI M + 1000000 * (p1.toInt + p2.toInt + p3.toInt) + e ∧ -(1300 * (p1.toInt + p2.toInt + p3.toInt)) ≤ e ∧ e ≤ 1300 * (p1.toInt + p2.toInt + p3.toInt) := by
  have n0 : NI (sI M 0 0) := NI_0 n
  have q0 : nowI (sI M 0 0) = nowI M := by unfold nowI; rw [gL_sI]
  have r0 : picI (sI M 0 0) = picI M := by unfold picI; rw [gL_sI]
  obtain ⟨n1, q1, e1, r1, s1, s1'⟩ := go_all (t := p1) n0 (by omega) (by rw [q0]; omega)
  rw [q0] at q1
  rw [r0] at r1
  have ex1 : f_X6_goOn (sI M 0 0) p1 = x1M M p1 := by rw [x1M]
  rw [ex1] at n1 q1 r1
  obtain ⟨n2, q2, e2, r2, s2, s2'⟩ := go_all (t := p2) n1 (by omega) (by rw [q1]; omega)
  have ex2 : f_X6_goOn (x1M M p1) p2 = x2M M p1 p2 := by rw [x2M]
  rw [ex2] at n2 q2 r2
  rw [q1] at q2
  rw [r1] at r2
  obtain ⟨n3, q3, e3, r3, s3, s3'⟩ := go_all (t := p3) n2 (by omega) (by rw [q2]; omega)
  have ex3 : f_X6_goOn (x2M M p1 p2) p3 = x3M M p1 p2 p3 := by rw [x3M]
  rw [ex3] at n3 q3 r3
  rw [q2] at q3
  rw [r2] at r3
  refine ⟨⟨n1, q1⟩, ⟨n2, q2⟩, ⟨n3, q3⟩, e1 + e2 + e3, ?_, ?_, ?_⟩
  · rw [r3]; omega
  · omega
  · omega
theorem xdl_i {M : Mem} {j : Nat} {p1 p2 p3 : Int32} {v : Int} (h : (xdr M j p1 p2 p3).toInt = v) : (xdl M j p1 p2 p3).toInt = if v < 0 then 0 else v := by
  unfold xdl
  have hc : xdr M j p1 p2 p3 < 0 ↔ v < 0 := by rw [l_lt, h, show (0 : Int64).toInt = 0 by decide]
  by_cases c : xdr M j p1 p2 p3 < 0
  · rw [if_pos c, if_pos (hc.mp c), show (0 : Int64).toInt = 0 by decide]
  · rw [if_neg c, if_neg (fun q => c (hc.mpr q)), h]
