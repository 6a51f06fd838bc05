/-! a clock that is corrected, beside one that is not */ -/
def HS (A : Mem) (now pic pnd d : Int) : Prop := nowI A = now ∧ picI A = pic ∧ (gL A 2).toInt = pnd ∧ (gI A 1).toInt = d ∧ gI A 2 = 0
theorem go_x {A : Mem} {t : Int32} (n : okG A) (h0 : 0 ≤ t.toInt ∧ t.toInt ≤ 1000000000) : picI (f_X6_goOn A t) = picI A + t.toInt * (1000000 + (gI A 1).toInt + (gI A 2).toInt) + (prt (gL A 2) t).toInt ∧ gL (f_X6_goOn A t) 2 = gL A 2 - prt (gL A 2) t := by
  have hp := pic_rng n
  obtain ⟨⟨a1, a2⟩, -, hd, he⟩ := n
  have p1 := prt_rng (p := gL A 2) h0.1
  have b1 : ((1000000 : Int64) + (gI A 1).toInt64).toInt = 1000000 + (gI A 1).toInt := by rw [l_add, mil_i, Int32.toInt_toInt64]; rw [mil_i, Int32.toInt_toInt64]; omega
  have b2 : ((1000000 : Int64) + (gI A 1).toInt64 + (gI A 2).toInt64).toInt = 1000000 + (gI A 1).toInt + (gI A 2).toInt := by rw [l_add, b1, Int32.toInt_toInt64]; rw [b1, Int32.toInt_toInt64]; omega
  have m := mul_rng (d := (gI A 1).toInt + (gI A 2).toInt) (c := 800) h0.1 (by omega) (by omega)
  have e3 : t.toInt * (1000000 + (gI A 1).toInt + (gI A 2).toInt) = 1000000 * t.toInt + t.toInt * ((gI A 1).toInt + (gI A 2).toInt) := by
    rw [Int.add_assoc, Int.mul_add, Int.mul_comm t.toInt 1000000]
  have q1 : (t.toInt64 * ((1000000 + (gI A 1).toInt64) + (gI A 2).toInt64)).toInt = t.toInt * (1000000 + (gI A 1).toInt + (gI A 2).toInt) := by
    rw [l_mul, b2, Int32.toInt_toInt64]
    rw [b2, Int32.toInt_toInt64, e3]
    omega
  unfold picI at *
  rw [go6]
  simp -implicitDefEqProofs (disch := decide) only [gL_eq, gL_ne, gI_eq, gI_ne, gB_eq, gB_ne, gJ_eq, gJ_ne, gL_sI, gI_sL, gI_sB, gI_sJ, gL_sB, gL_sJ, gB_sI, gB_sL, gB_sJ, gJ_sI, gJ_sL, gJ_sB]
  refine ⟨?_, by trivial⟩
  have e1 : (t.toInt64 * (1000000 + (gI A 1).toInt64 + (gI A 2).toInt64) + prt (gL A 2) t).toInt = t.toInt * (1000000 + (gI A 1).toInt + (gI A 2).toInt) + (prt (gL A 2) t).toInt := by
    rw [l_add, q1]
    rw [q1, e3]; omega
  rw [l_add, e1]
  · exact (Int.add_assoc _ _ _).symm
  · rw [e1, e3]; omega
theorem hs_go {A : Mem} {t : Int32} {now pic pnd d : Int} (n : okG A) (h0 : 0 ≤ t.toInt ∧ t.toInt ≤ 1000000000) (h : HS A now pic pnd d) (hp : -(500 * t.toInt) ≤ pnd ∧ pnd ≤ 500 * t.toInt) : HS (f_X6_goOn A t) (now + t.toInt) (pic + t.toInt * (1000000 + d) + pnd) 0 d := by
  obtain ⟨h1, h2, h3, h4, h5⟩ := h
  obtain ⟨g1, g2⟩ := go_x n h0
  have ep : (prt (gL A 2) t).toInt = pnd := by
    rw [prt_i h0.1, h3, if_neg (by omega), if_neg (by omega)]
  have z : (0 : Int32).toInt = 0 := by decide
  refine ⟨by rw [(go_num n h0).1, h1], by rw [g1, ep, h2, h4, h5, z, Int.add_zero], ?_, by rw [go_I]; exact h4, by rw [go_I]; exact h5⟩
  rw [g2, l_sub, h3, ep]
  · omega
  · rw [h3, ep]; omega
theorem hs_eq {A B : Mem} {now pic pnd d : Int} (h : HS A now pic pnd d) (h0 : gL B 0 = gL A 0) (h1 : gL B 1 = gL A 1) (h2 : gL B 2 = gL A 2) (i1 : gI B 1 = gI A 1) (i2 : gI B 2 = gI A 2) : HS B now pic pnd d := by
  obtain ⟨a, b, c, d', e⟩ := h
  unfold HS nowI picI at *
  rw [h0, h1, h2, i1, i2]
  exact ⟨a, b, c, d', e⟩
theorem I_nrm {A : Mem} {a : Nat} : gI (nrm A) a = gI A a := by unfold nrm; rw [gI_sB, gI_sB]
theorem J_nrm {A : Mem} {a : Nat} : gJ (nrm A) a = gJ A a := by unfold nrm; rw [gJ_sB, gJ_sB]
theorem sn_nrm {A : Mem} : sn (nrm A) = sn A := by rw [sn, I_nrm, ← sn]
theorem kn_nrm {A : Mem} {k : Nat} : kn (nrm A) k = kn A k := by rw [kn, B_nrm (by decide) (by decide), ← kn]
section SL
variable {Mm M u : Mem} {t : Int32}
theorem in_rng' {p a b : Int32} (h : a.toInt ≤ p.toInt ∧ p.toInt ≤ b.toInt) : ¬ f_X5_isWithin p a b = 0 := by
  rw [f_X5_isWithin, if_neg (fun q => by have := i_lt.mp q; omega), if_neg (fun q => by have := i_lt.mp q; omega)]
  decide
/-! restart -/
theorem sp_started {r p : Int32} (h : CL Mm t M) (hp : -1000000000 ≤ p.toInt ∧ p.toInt ≤ 1000000000) (hw : (r, u) = wV (f_X5_restart M p)) : r = 0 ∧ CL (nrm (f_X6_restart Mm p)) 16 u := by
  have c := in_rng' (a := -1000000000) (b := 1000000000) hp
  have hr := r_0 (x := p) h.1
  rw [rst5, if_neg c] at hw hr
  obtain ⟨e1, e2⟩ := wV_ok hw
  refine ⟨e1, CL_mk (by rw [e2]; exact hr) (rst6_rd h.2.1) ?_ (by rw [e2, beg5]; simp -implicitDefEqProofs (disch := decide) only [gL_eq, gL_ne, gI_eq, gI_ne, gB_eq, gB_ne, gJ_eq, gJ_ne, gL_sI, gI_sL, gI_sB, gI_sJ, gL_sB, gL_sJ, gB_sI, gB_sL, gB_sJ, gJ_sI, gJ_sL, gJ_sB])⟩
  obtain ⟨f, -, e⟩ := rst6 (M := Mm) (x := p)
  rw [e, if_neg c]
  refine ⟨⟨by rw [sn_sB, sn, gI_eq]; decide, by rw [sn_sB, sn, gI_sB, gI_eq]; decide⟩, fun j hj => ?_⟩
  rw [kn]
  simp -implicitDefEqProofs (disch := decide) only [gL_eq, gL_ne, gI_eq, gI_ne, gB_eq, gB_ne, gJ_eq, gJ_ne, gL_sI, gI_sL, gI_sB, gI_sJ, gL_sB, gL_sJ, gB_sI, gB_sL, gB_sJ, gJ_sI, gJ_sL, gJ_sB]
  exact WFk h.2.2.1 hj
theorem st_hs {p : Int32} (hp : -1000000000 ≤ p.toInt ∧ p.toInt ≤ 1000000000) : HS (nrm (f_X6_restart Mm p)) 0 (p.toInt * 1000000) 0 0 ∧ sn (nrm (f_X6_restart Mm p)) = 0 ∧ gI (nrm (f_X6_restart Mm p)) 4 = 0 := by
  have c := in_rng' (a := -1000000000) (b := 1000000000) hp
  obtain ⟨f, -, e⟩ := rst6 (M := Mm) (x := p)
  rw [if_neg c] at e
  have z : (0 : Int64).toInt = 0 := by decide
  have zi : (0 : Int32).toInt = 0 := by decide
  have ep : (p.toInt64 * 1000000).toInt = p.toInt * 1000000 := by rw [l_mul (by rw [Int32.toInt_toInt64, mil_i]; omega), Int32.toInt_toInt64, mil_i]
  refine ⟨?_, ?_, ?_⟩
  · unfold HS nowI picI
    rw [L_nrm, L_nrm, L_nrm, I_nrm, I_nrm, e]
    simp -implicitDefEqProofs (disch := decide) only [gL_eq, gL_ne, gI_eq, gI_ne, gB_eq, gB_ne, gJ_eq, gJ_ne, gL_sI, gI_sL, gI_sB, gI_sJ, gL_sB, gL_sJ, gB_sI, gB_sL, gB_sJ, gJ_sI, gJ_sL, gJ_sB]
    rw [z, zi, ep]
    exact ⟨rfl, rfl, rfl, rfl, trivial⟩
  · rw [sn_nrm, e, sn_sB, sn, gI_eq]; decide
  · rw [I_nrm, e]; simp -implicitDefEqProofs (disch := decide) only [gL_eq, gL_ne, gI_eq, gI_ne, gB_eq, gB_ne, gJ_eq, gJ_ne, gL_sI, gI_sL, gI_sB, gI_sJ, gL_sB, gL_sJ, gB_sI, gB_sL, gB_sJ, gJ_sI, gJ_sL, gJ_sB]
/-! setDrift -/
theorem sp_drift_ok {r p : Int32} (h : CL Mm t M) (hp : -300 ≤ p.toInt ∧ p.toInt ≤ 300) (hw : (r, u) = wI (f_X5_setDrift M p)) : r = gI Mm 1 ∧ CL (nrm (f_X6_setDrift Mm p).2) t u := by
  have c := in_rng' (a := -300) (b := 300) hp
  have g := sp_drifts h hw
  refine ⟨g.1.trans ?_, g.2⟩
  rw [drift6, if_neg c, ansI]
  dsimp only
  rw [if_pos (by rw [gI_ne (by decide), gI_eq])]
theorem dr_hs {p : Int32} {now pic pnd d : Int} (h : HS Mm now pic pnd d) (hp : -300 ≤ p.toInt ∧ p.toInt ≤ 300) : HS (nrm (f_X6_setDrift Mm p).2) now pic pnd p.toInt ∧ sn (nrm (f_X6_setDrift Mm p).2) = sn Mm ∧ gI (nrm (f_X6_setDrift Mm p).2) 4 = gI Mm 4 := by
  have c := in_rng' (a := -300) (b := 300) hp
  rw [drift6, if_neg c]
  dsimp only
  obtain ⟨h1, h2, h3, h4, h5⟩ := h
  refine ⟨?_, by rw [sn_nrm, sn_sI0 (by decide), sn_sI0 (by decide)], by rw [I_nrm]; simp -implicitDefEqProofs (disch := decide) only [gL_eq, gL_ne, gI_eq, gI_ne, gB_eq, gB_ne, gJ_eq, gJ_ne, gL_sI, gI_sL, gI_sB, gI_sJ, gL_sB, gL_sJ, gB_sI, gB_sL, gB_sJ, gJ_sI, gJ_sL, gJ_sB]⟩
  unfold HS nowI picI at *
  rw [L_nrm, L_nrm, L_nrm, I_nrm, I_nrm]
  simp -implicitDefEqProofs (disch := decide) only [gL_eq, gL_ne, gI_eq, gI_ne, gB_eq, gB_ne, gJ_eq, gJ_ne, gL_sI, gI_sL, gI_sB, gI_sJ, gL_sB, gL_sJ, gB_sI, gB_sL, gB_sJ, gJ_sI, gJ_sL, gJ_sB]
  exact ⟨h1, h2, h3, by trivial, h5⟩
/-! addServer -/
theorem okS_2 {e : Int32} (he : -200000 ≤ e.toInt ∧ e.toInt ≤ 200000) : okS 2 e 0 0 :=
  ⟨by decide, in_rng' (a := -1000000) (b := 1000000) (by rw [show (-1000000 : Int32).toInt = -1000000 by decide, show (1000000 : Int32).toInt = 1000000 by decide]; omega), by decide, by decide⟩
theorem ad6_1 {e : Int32} (h : CL Mm t M) (hs : sn Mm = 0) (he : -200000 ≤ e.toInt ∧ e.toInt ≤ 200000) : f_X6_addServer Mm 2 e 0 0 = (nI 0, set6 Mm 0 2 e 0 0) := by
  have := add6_ok (M := Mm) (okS_2 he) (by rw [hs]; decide) (by omega)
  rw [this, hs]
theorem sp_add_1 {r e : Int32} (h : CL Mm t M) (hs : sn Mm = 0) (he : -200000 ≤ e.toInt ∧ e.toInt ≤ 200000) (hw : (r, u) = wI (f_X5_addServer M 2 e 0 0)) : r = 0 ∧ CL (nrm (set6 Mm 0 2 e 0 0)) t u := by
  have g := sp_added h hw
  rw [ad6_1 h hs he] at g
  refine ⟨g.1.trans ?_, g.2⟩
  rw [ansI]
  dsimp only
  rw [if_pos (by unfold set6; simp -implicitDefEqProofs (disch := decide) only [gL_eq, gL_ne, gI_eq, gI_ne, gB_eq, gB_ne, gJ_eq, gJ_ne, gL_sI, gI_sL, gI_sB, gI_sJ, gL_sB, gL_sJ, gB_sI, gB_sL, gB_sJ, gJ_sI, gJ_sL, gJ_sB])]
  rfl
theorem ad_hs {e : Int32} {now pic pnd d : Int} (h : HS Mm now pic pnd d) : HS (nrm (set6 Mm 0 2 e 0 0)) now pic pnd d ∧ sn (nrm (set6 Mm 0 2 e 0 0)) = 1 ∧ kn (nrm (set6 Mm 0 2 e 0 0)) 0 = 0 ∧ gB (nrm (set6 Mm 0 2 e 0 0)) 2 0 = e ∧ gI (nrm (set6 Mm 0 2 e 0 0)) 4 = gI Mm 4 := by
  refine ⟨hs_eq h ?_ ?_ ?_ ?_ ?_, by rw [sn_nrm, sn_set (by omega)], by rw [kn_nrm, kn_set, if_pos rfl], ?_, ?_⟩
  · rw [L_nrm]; unfold set6; simp -implicitDefEqProofs (disch := decide) only [gL_eq, gL_ne, gI_eq, gI_ne, gB_eq, gB_ne, gJ_eq, gJ_ne, gL_sI, gI_sL, gI_sB, gI_sJ, gL_sB, gL_sJ, gB_sI, gB_sL, gB_sJ, gJ_sI, gJ_sL, gJ_sB]
  · rw [L_nrm]; unfold set6; simp -implicitDefEqProofs (disch := decide) only [gL_eq, gL_ne, gI_eq, gI_ne, gB_eq, gB_ne, gJ_eq, gJ_ne, gL_sI, gI_sL, gI_sB, gI_sJ, gL_sB, gL_sJ, gB_sI, gB_sL, gB_sJ, gJ_sI, gJ_sL, gJ_sB]
  · rw [L_nrm]; unfold set6; simp -implicitDefEqProofs (disch := decide) only [gL_eq, gL_ne, gI_eq, gI_ne, gB_eq, gB_ne, gJ_eq, gJ_ne, gL_sI, gI_sL, gI_sB, gI_sJ, gL_sB, gL_sJ, gB_sI, gB_sL, gB_sJ, gJ_sI, gJ_sL, gJ_sB]
  · rw [I_nrm]; unfold set6; simp -implicitDefEqProofs (disch := decide) only [gL_eq, gL_ne, gI_eq, gI_ne, gB_eq, gB_ne, gJ_eq, gJ_ne, gL_sI, gI_sL, gI_sB, gI_sJ, gL_sB, gL_sJ, gB_sI, gB_sL, gB_sJ, gJ_sI, gJ_sL, gJ_sB]
  · rw [I_nrm]; unfold set6; simp -implicitDefEqProofs (disch := decide) only [gL_eq, gL_ne, gI_eq, gI_ne, gB_eq, gB_ne, gJ_eq, gJ_ne, gL_sI, gI_sL, gI_sB, gI_sJ, gL_sB, gL_sJ, gB_sI, gB_sL, gB_sJ, gJ_sI, gJ_sL, gJ_sB]
  · rw [B_nrm (by decide) (by decide)]; unfold set6; simp -implicitDefEqProofs (disch := decide) only [gL_eq, gL_ne, gI_eq, gI_ne, gB_eq, gB_ne, gJ_eq, gJ_ne, gL_sI, gI_sL, gI_sB, gI_sJ, gL_sB, gL_sJ, gB_sI, gB_sL, gB_sJ, gJ_sI, gJ_sL, gJ_sB]; rw [upd_eq]
  · rw [I_nrm]; unfold set6; simp -implicitDefEqProofs (disch := decide) only [gL_eq, gL_ne, gI_eq, gI_ne, gB_eq, gB_ne, gJ_eq, gJ_ne, gL_sI, gI_sL, gI_sB, gI_sJ, gL_sB, gL_sJ, gB_sI, gB_sL, gB_sJ, gJ_sI, gJ_sL, gJ_sB]
/-! exchange -/
theorem okX_2 {o b : Int32} (ho : 0 ≤ o.toInt ∧ o.toInt ≤ 99999) (hb : 0 ≤ b.toInt ∧ b.toInt ≤ 99999) : okX o 0 b := by
  have e5 : (500000 : Int32).toInt = 500000 := by decide
  have e0 : (0 : Int32).toInt = 0 := by decide
  exact ⟨in_rng' (by rw [e5, e0]; omega), by decide, in_rng' (by rw [e5, e0]; omega)⟩
theorem is_0 (h : CL Mm t M) (hs : sn Mm = 1) : ¬ f_X6_isServer Mm (nI 0) = 0 := by
  rcases srv_eq h.2.2.1 h.1.1.2.2.2.2.2.2.2.2 (nI 0) with ⟨h1, -⟩ | ⟨j, -, -, -, -, h2⟩
  · rw [srv_yes h (by omega)] at h1; cases h1
  · exact h2
theorem ex6_1 {o b : Int32} {pic d : Int} (h : CL Mm t M) (hs : sn Mm = 1) (hH : HS Mm 0 pic 0 d) (ho : 0 ≤ o.toInt ∧ o.toInt ≤ 99999) (hb : 0 ≤ b.toInt ∧ b.toInt ≤ 99999) :
    f_X6_exchange Mm 0 o 0 b = (xdl Mm 0 o 0 b, f_X6_keep (x3M Mm o 0 b) 0 (xof Mm 0 o 0 b) (xdl Mm 0 o 0 b) (f_X6_reading (x3M Mm o 0 b))) := by
  have e0 : (0 : Int32).toInt = 0 := by decide
  have hx := okX_2 ho hb
  refine exs_4 (j := 0) (by omega) (is_0 h hs) hx (fun q => ?_)
  have := (max_3 h.2.1.1 hx).mp q
  rw [hH.1, e0] at this
  omega
theorem xdl_nn {j : Nat} {o p b : Int32} : ¬ xdl Mm j o p b < 0 := by
  unfold xdl
  split
  · decide
  · assumption
theorem sp_ex_1 {r : Int64} {o b : Int32} {pic d : Int} (h : CL Mm t M) (hs : sn Mm = 1) (hH : HS Mm 0 pic 0 d) (ho : 0 ≤ o.toInt ∧ o.toInt ≤ 99999) (hb : 0 ≤ b.toInt ∧ b.toInt ≤ 99999) (hw : (r, u) = wL (f_X5_exchange M 0 o 0 b)) : r = xdl Mm 0 o 0 b ∧ CL (nrm (f_X6_exchange Mm 0 o 0 b).2) t u := by
  have g := sp_exchanged h hw
  refine ⟨g.1.trans ?_, g.2⟩
  have hk3 : kn (x3M Mm o 0 b) 0 ≤ 8 := (WFk (x3_w h.2.2.1) (by omega)).1
  rw [ex6_1 h hs hH ho hb, ansL]
  dsimp only
  rw [if_pos (by rw [(keep_spec (by omega) hk3).1 0, x3_0])]
theorem x3_go {o b : Int32} (ho : 0 ≤ o.toInt ∧ o.toInt ≤ 99999) (hb : 0 ≤ b.toInt ∧ b.toInt ≤ 99999) : x3M Mm o 0 b = f_X6_goOn (sI Mm 0 0) (o + b) := by
  have e0 : (0 : Int32).toInt = 0 := by decide
  have eo : (o + b).toInt = o.toInt + b.toInt := i_add (by omega)
  rw [x3M, x2M, x1M, go_2 (c := o) ho.1 (by decide) (by omega)]
  exact go_2 ho.1 hb.1 eo
theorem ex_hs {o b e : Int32} {st d : Int} (h : CL Mm t M) (hs : sn Mm = 1) (hk0 : kn Mm 0 = 0) (hB : gB Mm 2 0 = e) (hH : HS Mm 0 (st * 1000000) 0 d) (hst : -200000 ≤ st ∧ st ≤ 200000) (he : -200000 ≤ e.toInt ∧ e.toInt ≤ 200000) (ho : 0 ≤ o.toInt ∧ o.toInt ≤ 99999) (hb : 0 ≤ b.toInt ∧ b.toInt ≤ 99999) :
    HS (nrm (f_X6_exchange Mm 0 o 0 b).2) (o + b).toInt (st * 1000000 + (o + b).toInt * (1000000 + d)) 0 d ∧ sn (nrm (f_X6_exchange Mm 0 o 0 b).2) = 1 ∧ 0 < kn (nrm (f_X6_exchange Mm 0 o 0 b).2) 0 ∧
    (-500000 ≤ (offM (nrm (f_X6_exchange Mm 0 o 0 b).2) 0).toInt ∧ (offM (nrm (f_X6_exchange Mm 0 o 0 b).2) 0).toInt ≤ 500000) ∧ gI (nrm (f_X6_exchange Mm 0 o 0 b).2) 4 = gI Mm 4 := by
  have e0 : (0 : Int32).toInt = 0 := by decide
  have eo : (o + b).toInt = o.toInt + b.toInt := i_add (by omega)
  have w := h.2.2.1
  have hk3 : kn (x3M Mm o 0 b) 0 ≤ 8 := (WFk (x3_w w) (by omega)).1
  have k3 : kn (x3M Mm o 0 b) 0 = 0 := by rw [kn, x3_B, ← kn]; exact hk0
  obtain ⟨k1, k2, k4, -, k5, k6⟩ := keep_spec (p1 := xof Mm 0 o 0 b) (p2 := xdl Mm 0 o 0 b) (p3 := f_X6_reading (x3M Mm o 0 b)) (show (0 : Nat) < 8 by omega) hk3
  rw [k3, if_neg (by decide)] at k5 k6
  rw [ex6_1 h hs hH ho hb]
  dsimp only
  generalize f_X6_keep (x3M Mm o 0 b) 0 (xof Mm 0 o 0 b) (xdl Mm 0 o 0 b) (f_X6_reading (x3M Mm o 0 b)) = K at k1 k2 k4 k5 k6 ⊢
  have ekn : kn K 0 = 1 := kn_at (by omega) k5
  have hH0 : HS (sI Mm 0 0) 0 (st * 1000000) 0 d := hs_eq hH gL_sI gL_sI gL_sI (gI_ne (by decide)) (gI_ne (by decide))
  have hG := hs_go (t := o + b) (NI_0 (v := 0) h.2.1).1 (by omega) hH0 (by omega)
  rw [← x3_go ho hb] at hG
  have hHK : HS (nrm K) (0 + (o + b).toInt) (st * 1000000 + (o + b).toInt * (1000000 + d) + 0) 0 d := hs_eq hG (by rw [L_nrm, k2]) (by rw [L_nrm, k2]) (by rw [L_nrm, k2]) (by rw [I_nrm, k1]) (by rw [I_nrm, k1])
  rw [Int.zero_add, Int.add_zero] at hHK
  refine ⟨hHK, by rw [sn_nrm, sn, k1, x3_I (by decide), ← sn]; exact hs, by rw [kn_nrm, ekn]; omega, ?_, by rw [I_nrm, k1, x3_I (by decide)]⟩
  -- the offset
  have hbx : bx K 0 = 0 := by
    have := (best_spec (M := K) (j := 0) (by omega) (by omega)).2.2 (by omega)
    have := this.1
    omega
  have hof : offM (nrm K) 0 = xof Mm 0 o 0 b := by
    rw [offM, bx_eq EQ_nrm, J_nrm, hbx, k6 0 (by decide) 0, if_pos (by omega)]
    rfl
  rw [hof]
  obtain ⟨⟨n1, q1⟩, ⟨n2, q2⟩, ⟨n3, q3⟩, e9, r3, s3, s3'⟩ := x_nums (p1 := o) (p2 := 0) (p3 := b) h.2.1 (by omega) (by rw [e0]; omega) (by omega) (by rw [hH.1, e0]; omega)
  have er : -1000000 ≤ (gB Mm 2 0).toInt ∧ (gB Mm 2 0).toInt ≤ 1000000 := by rw [hB]; omega
  obtain ⟨u2, b2⟩ := t_add (b := xt2 Mm 0 o) n1.1.1 er (by rw [xt2, x1M, go_B, gB_sI])
  obtain ⟨u3, b3⟩ := t_add (b := xt3 Mm 0 o 0) n2.1.1 er (by rw [xt3, x2M, x1M, go_B, go_B, gB_sI])
  have u2' : (xt2 Mm 0 o).toInt = nowI Mm + o.toInt + (gB Mm 2 0).toInt := u2.trans (congrArg (fun z => z + (gB Mm 2 0).toInt) q1)
  have u3' : (xt3 Mm 0 o 0).toInt = nowI Mm + o.toInt + (0 : Int32).toInt + (gB Mm 2 0).toInt := u3.trans (congrArg (fun z => z + (gB Mm 2 0).toInt) q2)
  have v3 := sub_add4 b2 (rd_wide h.2.1) b3 (rd_wide n3)
  rw [u2', u3', rd_i, rd_i, hH.1, hB, e0, r3, hH.2.1] at v3
  have hv : (xof Mm 0 o 0 b).toInt = ((0 + o.toInt + e.toInt - st * 1000000 / 1000000) + (0 + o.toInt + 0 + e.toInt - (st * 1000000 + 1000000 * (o.toInt + (0 : Int32).toInt + b.toInt) + e9) / 1000000)) / 2 := by unfold xof; rw [half_i, v3]
  rw [hv, e0]
  rw [e0] at s3 s3'
  clear hv v3 u2 u2' u3 u3' b2 b3
  omega
/-! one server alone -/
theorem one_sv (h : CL Mm t M) (hs : sn Mm = 1) (hk : 0 < kn Mm 0) : (mjV Mm = 1 ∧ ¬ CN Mm = 0) ∧ (meA Mm).toInt = (offM Mm 0).toInt := by
  have hc0 : cnd Mm 0 = true := cnd_of (by omega) hk
  have hCN : CN Mm = 1 := by
    rw [← bcn_c h, hs, bc, bc, if_pos hc0]
  have hne : ¬ CN Mm = 0 := by omega
  have hp := pos_counts h hne
  refine ⟨⟨by rw [mjV, if_pos (by omega)], hne⟩, ?_⟩
  have hr := off_rng h.2.1.nb h.2.2.1 hc0
  have m := mean_rng h hne (A := (offM Mm 0).toInt) (X := (offM Mm 0).toInt) hr.1 hr.2 (fun e he hsv => by
    have := (cnd_i (sv_cnd h he hsv)).1
    have e0 : e = 0 := by omega
    rw [e0]; exact ⟨Int.le_refl _, Int.le_refl _⟩)
  rw [meA, if_neg hne]
  omega
theorem yo_mean (h : CL Mm t M) (hne : ¬ CN Mm = 0) : yo Mm = meA Mm := by
  have hS := SEL_of h
  have hs := some_sv h hne
  have e1 := co_eq h.2.1.nb h.2.2.1 hS.2.2.1 hs
  have e2 := co_eq h.2.1.nb h.2.2.1 (SV_0 (v := 0) hS.2.2.1) (by rw [gB_sI]; exact hs)
  rw [meA, if_neg hne, mean, ← e1, e2, yo, y3]
theorem yR_0 {A : Mem} {o : Int64} (h : gI A 4 = 0) : yR A o = A := by
  unfold yR
  rw [h, if_neg (by decide)]
theorem sy6_1 (h : CL Mm t M) (hm : mjV Mm = 1) (hne : ¬ CN Mm = 0) (h4 : gI Mm 4 = 0) : ∃ g : Nat → Int32, f_X6_synchronize Mm = (if 128000 < meA Mm then 1 else 0, sB (yE (yT (y3 Mm) (meA Mm))) 5 g) := by
  have c := (maj_iff h).mpr (by rw [hm]; decide)
  obtain ⟨g, -, e⟩ := syn_yes c
  have h3 : gI (y3 Mm) 4 = 0 := ((y3_EQ h.2.1 h.2.2.1).1 4 (by decide) (by decide) (by decide)).trans h4
  rw [yo_mean h hne, yR_0 h3] at e
  exact ⟨g, e⟩
theorem sy_r (h : CL Mm t M) (hm : mjV Mm = 1) (hne : ¬ CN Mm = 0) (h4 : gI Mm 4 = 0) : ansI bkS (f_X6_synchronize Mm) = if 128000 < meA Mm then 1 else 0 := by
  obtain ⟨g, e⟩ := sy6_1 h hm hne h4
  have h0 : gI (sB (yE (yT (y3 Mm) (meA Mm))) 5 g) 0 = 0 := by rw [gI_sB, yE_I (by decide) (by decide), yT_I (by decide), y3, gI_eq]
  rw [e, ansI]
  dsimp only
  rw [if_pos h0]
theorem sy_hs {now pic d : Int} (h : CL Mm t M) (hm : mjV Mm = 1) (hne : ¬ CN Mm = 0) (h4 : gI Mm 4 = 0) (hH : HS Mm now pic 0 d) (hr : -500000 ≤ (meA Mm).toInt ∧ (meA Mm).toInt ≤ 500000) :
    (128000 < meA Mm → HS (nrm (f_X6_synchronize Mm).2) now (pic + (meA Mm).toInt * 1000000) 0 d) ∧ (¬ 128000 < meA Mm → HS (nrm (f_X6_synchronize Mm).2) now pic ((meA Mm).toInt * 1000000) d) := by
  obtain ⟨g, e⟩ := sy6_1 h hm hne h4
  have E3 := y3_EQ h.2.1 h.2.2.1
  have hp := pic_rng h.2.1.1
  have eo := o_num (p := gL Mm 1) (o := meA Mm) hp (by omega)
  have em : (meA Mm * 1000000).toInt = (meA Mm).toInt * 1000000 := by rw [l_mul (by rw [mil_i]; omega), mil_i]
  obtain ⟨h1, h2, h3, h5, h6⟩ := hH
  unfold HS nowI picI at *
  rw [e]
  dsimp only
  rw [L_nrm, L_nrm, L_nrm, I_nrm, I_nrm, gL_sB, gL_sB, gL_sB, gI_sB, gI_sB, yE_L (by decide), yE_L (by decide), yE_L (by decide), yE_I (by decide) (by decide), yE_I (by decide) (by decide), yT_I (by decide), yT_I (by decide), yT_0]
  rw [E3.2.1 0 (by decide) (by decide), E3.1 1 (by decide) (by decide) (by decide), E3.1 2 (by decide) (by decide) (by decide), yT_1, E3.2.1 1 (by decide) (by decide)]
  constructor
  · intro c
    rw [if_pos c]
    refine ⟨h1, ?_, ?_, h5, h6⟩
    · rw [eo, h2]
    · unfold yT; rw [if_pos c]; simp -implicitDefEqProofs (disch := decide) only [gL_eq, gL_ne, gI_eq, gI_ne, gB_eq, gB_ne, gJ_eq, gJ_ne, gL_sI, gI_sL, gI_sB, gI_sJ, gL_sB, gL_sJ, gB_sI, gB_sL, gB_sJ, gJ_sI, gJ_sL, gJ_sB]; decide
  · intro c
    rw [if_neg c, Int64.add_zero]
    refine ⟨h1, h2, ?_, h5, h6⟩
    unfold yT; rw [if_neg c]; simp -implicitDefEqProofs (disch := decide) only [gL_eq, gL_ne, gI_eq, gI_ne, gB_eq, gB_ne, gJ_eq, gJ_ne, gL_sI, gI_sL, gI_sB, gI_sJ, gL_sB, gL_sJ, gB_sI, gB_sL, gB_sJ, gJ_sI, gJ_sL, gJ_sB]; exact em
/-! differences of two clocks -/
theorem df {A B M2 N2 : Mem} {t1 t2 : Int32} {n1 n2 p q1 q2 d1 d2 c : Int} (h : CL A t1 M2) (g : CL B t2 N2) (hA : HS A n1 (p + c * 1000000) q1 d1) (hB : HS B n2 p q2 d2) : (f_X6_reading A - f_X6_reading B).toInt = c := by
  have h1 := rd_wide h.2.1
  have h2 := rd_wide g.2.1
  have e1 : (f_X6_reading A).toInt = p / 1000000 + c := by rw [rd_i, hA.2.1]; omega
  have e2 : (f_X6_reading B).toInt = p / 1000000 := by rw [rd_i, hB.2.1]
  rw [l_sub (by omega), e1, e2]
  omega
theorem rd_same {A B : Mem} {n1 n2 p q1 q2 d1 d2 : Int} (hA : HS A n1 p q1 d1) (hB : HS B n2 p q2 d2) : f_X6_reading A = f_X6_reading B := by
  refine l_eq ?_
  rw [rd_i, rd_i, hA.2.1, hB.2.1]
theorem rd_posi {A : Mem} {n p q d : Int} (hA : HS A n p q d) (hp : 1000000 ≤ p) : (0 : Int64) < f_X6_reading A := by
  rw [l_lt, rd_i, hA.2.1, show (0 : Int64).toInt = 0 by decide]; omega
theorem g9 : (1000000000 : Int32).toInt = 1000000000 := by decide
/-- the loop's two clocks before the k-th pass -/
def LPs (k : Nat) (A B : Mem) (b p : Int) : Prop := ∃ (nw pnd d : Int), HS A nw (p + (b - pnd) * 1000000) (pnd * 1000000) d ∧ HS B nw p 0 d ∧ (pnd = 0 ∨ (pnd = b ∧ k = 0)) ∧ (0 ≤ nw ∧ nw ≤ 200000 + 1000000000 * (k : Int)) ∧ (-300 ≤ d ∧ d ≤ 300) ∧ -300000000000 ≤ p
theorem lp_step {A B M2 N2 : Mem} {t1 t2 : Int32} {k : Nat} {b p : Int} (h : CL A t1 M2) (g : CL B t2 N2) (hk : k < 5) (hb : -500000 ≤ b ∧ b ≤ 500000) (hL : LPs k A B b p) :
    (nowI A + (1000000000 : Int32).toInt ≤ 1000000000000 ∧ nowI B + (1000000000 : Int32).toInt ≤ 1000000000000) ∧ ∃ p', LPs (k + 1) (f_X6_goOn A 1000000000) (f_X6_goOn B 1000000000) b p' ∧ (0 : Int64) < f_X6_reading (f_X6_goOn A 1000000000) ∧ (0 : Int64) < f_X6_reading (f_X6_goOn B 1000000000) := by
  obtain ⟨nw, pnd, d, hA, hB, hc, hn, hd, hp⟩ := hL
  have hpn : -500000 ≤ pnd ∧ pnd ≤ 500000 := by rcases hc with e | ⟨e, -⟩ <;> rw [e] <;> omega
  have gA := hs_go (t := 1000000000) h.2.1.1 (by rw [g9]; omega) hA (by rw [g9]; omega)
  have gB := hs_go (t := 1000000000) g.2.1.1 (by rw [g9]; omega) hB (by rw [g9]; omega)
  rw [g9] at gA gB ⊢
  refine ⟨by rw [hA.1, hB.1]; omega, p + 1000000000 * (1000000 + d) + 0, ⟨nw + 1000000000, 0, d, ?_, gB, Or.inl rfl, ?_, hd, ?_⟩, rd_posi gA ?_, rd_posi gB ?_⟩
  · have e : p + (b - pnd) * 1000000 + 1000000000 * (1000000 + d) + pnd * 1000000 = p + 1000000000 * (1000000 + d) + 0 + (b - 0) * 1000000 := by omega
    rw [e] at gA
    rw [Int.zero_mul]
    exact gA
  · push_cast; omega
  · omega
  · omega
  · omega
theorem lp_df {A B M2 N2 : Mem} {t1 t2 : Int32} {k : Nat} {b p : Int} (h : CL A t1 M2) (g : CL B t2 N2) (hL : LPs k A B b p) : ∃ pnd : Int, (f_X6_reading A - f_X6_reading B).toInt = b - pnd ∧ (pnd = 0 ∨ (pnd = b ∧ k = 0)) := by
  obtain ⟨nw, pnd, d, hA, hB, hc, -⟩ := hL
  exact ⟨pnd, df h g hA hB, hc⟩
theorem lp_lt {A B A' B' M2 N2 M3 N3 : Mem} {t1 t2 t3 t4 : Int32} {k : Nat} {p p' : Int} {b : Int64} (h : CL A t1 M2) (g : CL B t2 N2) (hL : LPs k A B b.toInt p) (h' : CL A' t3 M3) (g' : CL B' t4 N3) (hL' : LPs (k + 1) A' B' b.toInt p') :
    (b < 0 → ¬ f_X6_reading A - f_X6_reading B < f_X6_reading A' - f_X6_reading B') ∧ (¬ b < 0 → ¬ f_X6_reading A' - f_X6_reading B' < f_X6_reading A - f_X6_reading B) := by
  obtain ⟨q, e1, e2⟩ := lp_df h g hL
  obtain ⟨q', e3, e4⟩ := lp_df h' g' hL'
  have z : (0 : Int64).toInt = 0 := by decide
  rw [l_lt, l_lt, l_lt, e1, e3, z]
  omega
theorem lp_end {A B M2 N2 : Mem} {t1 t2 : Int32} {k : Nat} {p : Int} {b : Int64} (h : CL A t1 M2) (g : CL B t2 N2) (hk : k = 5) (hL : LPs k A B b.toInt p) : gL A 2 / 1000000 = 0 ∧ f_X6_reading A - f_X6_reading B = b ∧ gI A 2 = 0 := by
  obtain ⟨q, e1, e2⟩ := lp_df h g hL
  obtain ⟨nw, pnd, d, hA, hB, hc, -⟩ := hL
  refine ⟨?_, l_eq (by omega), hA.2.2.2.2⟩
  have : gL A 2 = 0 := l_eq (by rw [hA.2.2.1, show (0 : Int64).toInt = 0 by decide]; omega)
  rw [this]; decide
end SL
