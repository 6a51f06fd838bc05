/-! NI stays: time, restart, drift, leap seconds, servers -/
theorem mul_rng {t d c : Int} (ht : 0 ≤ t) (h1 : -c ≤ d) (h2 : d ≤ c) : -(c * t) ≤ t * d ∧ t * d ≤ c * t := by
  have a := Int.mul_le_mul_of_nonneg_left h2 ht
  have b := Int.mul_le_mul_of_nonneg_left h1 ht
  rw [Int.mul_neg] at b
  rw [Int.mul_comm c t]
  exact ⟨b, a⟩
theorem prt_rng {p : Int64} {t : Int32} (h0 : 0 ≤ t.toInt) : -(500 * t.toInt) ≤ (prt p t).toInt ∧ (prt p t).toInt ≤ 500 * t.toInt := by
  obtain ⟨e1, e2⟩ := t500 h0
  have g1 : 500 * t.toInt64 < p ↔ 500 * t.toInt < p.toInt := by rw [l_lt, e1]
  have g2 : p < -(500 * t.toInt64) ↔ p.toInt < -(500 * t.toInt) := by rw [l_lt, e2]
  unfold prt
  by_cases c1 : 500 * t.toInt64 < p
  · rw [if_pos c1, e1]; omega
  · rw [if_neg c1]
    by_cases c2 : p < -(500 * t.toInt64)
    · rw [if_pos c2, e2]; omega
    · rw [if_neg c2]
      have n1 : ¬ 500 * t.toInt < p.toInt := fun q => c1 (g1.mpr q)
      have n2 : ¬ p.toInt < -(500 * t.toInt) := fun q => c2 (g2.mpr q)
      omega
theorem rate_num {t d e : Int32} (h0 : 0 ≤ t.toInt ∧ t.toInt ≤ 1000000000) (hd : -300 ≤ d.toInt ∧ d.toInt ≤ 300) (he : -500 ≤ e.toInt ∧ e.toInt ≤ 500) :
    ∃ q : Int, (t.toInt64 * ((1000000 + d.toInt64) + e.toInt64)).toInt = 1000000 * t.toInt + q ∧ -(800 * t.toInt) ≤ q ∧ q ≤ 800 * t.toInt := by
  have a1 : ((1000000 : Int64) + d.toInt64).toInt = 1000000 + d.toInt := by rw [l_add, mil_i, Int32.toInt_toInt64]; rw [mil_i, Int32.toInt_toInt64]; omega
  have a2 : ((1000000 : Int64) + d.toInt64 + e.toInt64).toInt = 1000000 + d.toInt + e.toInt := by rw [l_add, a1, Int32.toInt_toInt64]; rw [a1, Int32.toInt_toInt64]; omega
  have m := mul_rng (d := d.toInt + e.toInt) (c := 800) h0.1 (by omega) (by omega)
  have e3 : t.toInt * (1000000 + d.toInt + e.toInt) = 1000000 * t.toInt + t.toInt * (d.toInt + e.toInt) := by
    rw [Int.add_assoc, Int.mul_add, Int.mul_comm t.toInt 1000000]
  refine ⟨t.toInt * (d.toInt + e.toInt), ?_, m.1, m.2⟩
  rw [l_mul, a2, Int32.toInt_toInt64, e3]
  rw [a2, Int32.toInt_toInt64, e3]
  omega
theorem pic_rng {M : Mem} (n : okG M) : -10000000000000000 ≤ picI M ∧ picI M ≤ 1010000000000000000 := by
  obtain ⟨⟨a1, a2⟩, ⟨a3, a4⟩, -⟩ := n
  unfold dev at a3 a4
  omega
theorem go_num {M : Mem} {t : Int32} (n : okG M) (h0 : 0 ≤ t.toInt ∧ t.toInt ≤ 1000000000) : nowI (f_X6_goOn M t) = nowI M + t.toInt ∧ ∃ e : Int, picI (f_X6_goOn M t) = picI M + 1000000 * t.toInt + e ∧ -(1300 * t.toInt) ≤ e ∧ e ≤ 1300 * t.toInt := by
  have hp := pic_rng n
  obtain ⟨⟨a1, a2⟩, -, hd, he⟩ := n
  obtain ⟨q, q1, q2, q3⟩ := rate_num h0 hd he
  have p1 := prt_rng (p := gL M 2) h0.1
  unfold nowI picI at *
  rw [go6]
  simp -implicitDefEqProofs (disch := decide) only [gL_eq, gL_ne, gI_eq, gI_ne, gB_eq, gB_ne, gJ_eq, gJ_ne, gL_sI, gI_sL, gI_sB, gI_sJ, gL_sB, gL_sJ, gB_sI, gB_sL, gB_sJ, gJ_sI, gJ_sL, gJ_sB]
  refine ⟨?_, q + (prt (gL M 2) t).toInt, ?_, by omega, by omega⟩
  · rw [l_add, Int32.toInt_toInt64]; rw [Int32.toInt_toInt64]; omega
  · have e1 : (t.toInt64 * (1000000 + (gI M 1).toInt64 + (gI M 2).toInt64) + prt (gL M 2) t).toInt = 1000000 * t.toInt + q + (prt (gL M 2) t).toInt := by rw [l_add, q1]; rw [q1]; omega
    rw [l_add, e1]
    · omega
    · rw [e1]; omega
theorem okN_mv {D D' n n' R R' o d t x : Int} (h : okN D n R o d t) (h1 : n' = n + x) (h2 : D' ≤ D + 1300 * x) (h3 : R ≤ R') : okN D' n' R' o d t := by
  obtain ⟨a1, a2, a3, a4, a5, a6⟩ := h
  exact ⟨a1, by omega, a3, a4, a5, by omega⟩
/-- the same servers and samples; time has passed -/
theorem NI_move {M M' : Mem} (n : NI M) (hI1 : gI M' 1 = gI M 1) (hI2 : gI M' 2 = gI M 2) (hs : sn M' = sn M) (hB : ∀ a, gB M' a = gB M a) (hJ : ∀ a, gJ M' a = gJ M a) {x e : Int} (hx : 0 ≤ x) (hn : nowI M' = nowI M + x) (hp : picI M' = picI M + 1000000 * x + e) (he1 : -(1300 * x) ≤ e) (he2 : e ≤ 1300 * x) (hm : nowI M + x ≤ 1000000000000) : NI M' := by
  obtain ⟨⟨⟨a1, a2⟩, ⟨a3, a4⟩, hd, hc⟩, hv⟩ := n
  have hdev : dev M' = dev M + e := by unfold dev; rw [hn, hp]; omega
  refine ⟨⟨⟨by omega, by omega⟩, ⟨by omega, by omega⟩, by rw [hI1]; exact hd, by rw [hI2]; exact hc⟩, fun k hk => ?_⟩
  have hk' := hv k (by rw [hs] at hk; exact hk)
  have ekn : kn M' k = kn M k := by rw [kn, kn, hB]
  unfold okV at hk' ⊢
  rw [hB, hB, hB, hJ, hJ, hJ, ekn]
  refine ⟨hk'.1, hk'.2.1, hk'.2.2.1, fun t ht => okN_mv (hk'.2.2.2 t ht) hn (by omega) (by omega)⟩
theorem NI_go {M : Mem} {t : Int32} (n : NI M) (h0 : 0 ≤ t.toInt ∧ t.toInt ≤ 1000000000) (hm : nowI M + t.toInt ≤ 1000000000000) : NI (f_X6_goOn M t) := by
  obtain ⟨hn, e, hp, h1, h2⟩ := go_num n.1 h0
  have G := go6 (M := M) (t := t)
  exact NI_move n (by rw [G]; simp -implicitDefEqProofs (disch := decide) only [gL_eq, gL_ne, gI_eq, gI_ne, gB_eq, gB_ne, gJ_eq, gJ_ne, gL_sI, gI_sL, gI_sB, gI_sJ, gL_sB, gL_sJ, gB_sI, gB_sL, gB_sJ, gJ_sI, gJ_sL, gJ_sB]) (by rw [G]; simp -implicitDefEqProofs (disch := decide) only [gL_eq, gL_ne, gI_eq, gI_ne, gB_eq, gB_ne, gJ_eq, gJ_ne, gL_sI, gI_sL, gI_sB, gI_sJ, gL_sB, gL_sJ, gB_sI, gB_sL, gB_sJ, gJ_sI, gJ_sL, gJ_sB]) (by rw [G, sn_sL, sn_sL, sn_sL]) (fun a => by rw [G]; simp -implicitDefEqProofs (disch := decide) only [gL_eq, gL_ne, gI_eq, gI_ne, gB_eq, gB_ne, gJ_eq, gJ_ne, gL_sI, gI_sL, gI_sB, gI_sJ, gL_sB, gL_sJ, gB_sI, gB_sL, gB_sJ, gJ_sI, gJ_sL, gJ_sB]) (fun a => by rw [G]; simp -implicitDefEqProofs (disch := decide) only [gL_eq, gL_ne, gI_eq, gI_ne, gB_eq, gB_ne, gJ_eq, gJ_ne, gL_sI, gI_sL, gI_sB, gI_sJ, gL_sB, gL_sJ, gB_sI, gB_sL, gB_sJ, gJ_sI, gJ_sL, gJ_sB]) h0.1 hn hp h1 h2 hm
theorem NI_0 {M : Mem} {v : Int32} (n : NI M) : NI (sI M 0 v) := n.eq (EQ_sI (Or.inl rfl))
theorem max_i : (1000000000000 : Int64).toInt = 1000000000000 := by decide
theorem ni_1 {M : Mem} {x : Int32} (n : NI M) : NI (f_X6_pass M x).2 := by
  rw [pass6]
  by_cases h1 : f_X5_isWithin x 1 1000000000 = 0
  · rw [if_pos h1]; exact NI_0 n
  · rw [if_neg h1]
    have hw := within_1 h1
    rw [show (1 : Int32).toInt = 1 by decide, show (1000000000 : Int32).toInt = 1000000000 by decide] at hw
    by_cases h2 : (1000000000000 : Int64) < gL M 0 + x.toInt64
    · rw [if_pos h2]; exact NI_0 n
    · rw [if_neg h2]
      have n0 := NI_0 (v := 0) n
      have a := n.1.1
      unfold nowI at a
      rw [l_lt, max_i, l_add (by rw [Int32.toInt_toInt64]; omega), Int32.toInt_toInt64] at h2
      exact NI_go n0 (by omega) (by unfold nowI; rw [gL_sI]; omega)
/-- another drift, another correction, other leap seconds -/
theorem NI_cfg {M M' : Mem} (n : NI M) (h1 : -300 ≤ (gI M' 1).toInt ∧ (gI M' 1).toInt ≤ 300) (h2 : -500 ≤ (gI M' 2).toInt ∧ (gI M' 2).toInt ≤ 500) (hs : sn M' = sn M) (hL0 : gL M' 0 = gL M 0) (hL1 : gL M' 1 = gL M 1) (hB : ∀ a, 2 ≤ a → a ≤ 5 → gB M' a = gB M a) (hJ : ∀ a, gJ M' a = gJ M a) : NI M' := by
  obtain ⟨⟨a1, a2, -, -⟩, hv⟩ := n
  unfold NI okG okV dev picI nowI at *
  rw [hL0, hL1]
  refine ⟨⟨a1, a2, h1, h2⟩, fun k hk => ?_⟩
  have := hv k (by rw [hs] at hk; exact hk)
  have ekn : kn M' k = kn M k := by rw [kn, kn, hB 5 (by omega) (by omega)]
  rw [hB 2 (by omega) (by omega), hB 3 (by omega) (by omega), hB 4 (by omega) (by omega), hJ, hJ, hJ, ekn]
  exact this
theorem ni_2 {M : Mem} {x : Int32} (n : NI M) : NI (f_X6_setDrift M x).2 := by
  rw [drift6]
  by_cases h1 : f_X5_isWithin x (-300) 300 = 0
  · rw [if_pos h1]; exact NI_0 n
  · rw [if_neg h1]
    have hw := within_1 h1
    rw [show (-300 : Int32).toInt = -300 by decide, show (300 : Int32).toInt = 300 by decide] at hw
    exact NI_cfg n (by simp -implicitDefEqProofs (disch := decide) only [gL_eq, gL_ne, gI_eq, gI_ne, gB_eq, gB_ne, gJ_eq, gJ_ne, gL_sI, gI_sL, gI_sB, gI_sJ, gL_sB, gL_sJ, gB_sI, gB_sL, gB_sJ, gJ_sI, gJ_sL, gJ_sB]; exact hw) (by simp -implicitDefEqProofs (disch := decide) only [gL_eq, gL_ne, gI_eq, gI_ne, gB_eq, gB_ne, gJ_eq, gJ_ne, gL_sI, gI_sL, gI_sB, gI_sJ, gL_sB, gL_sJ, gB_sI, gB_sL, gB_sJ, gJ_sI, gJ_sL, gJ_sB]; exact n.1.2.2.2) (by rw [sn_sI0 (by decide), sn_sI0 (by decide)]) (by simp -implicitDefEqProofs (disch := decide) only [gL_eq, gL_ne, gI_eq, gI_ne, gB_eq, gB_ne, gJ_eq, gJ_ne, gL_sI, gI_sL, gI_sB, gI_sJ, gL_sB, gL_sJ, gB_sI, gB_sL, gB_sJ, gJ_sI, gJ_sL, gJ_sB]) (by simp -implicitDefEqProofs (disch := decide) only [gL_eq, gL_ne, gI_eq, gI_ne, gB_eq, gB_ne, gJ_eq, gJ_ne, gL_sI, gI_sL, gI_sB, gI_sJ, gL_sB, gL_sJ, gB_sI, gB_sL, gB_sJ, gJ_sI, gJ_sL, gJ_sB]) (fun a _ _ => by simp -implicitDefEqProofs (disch := decide) only [gL_eq, gL_ne, gI_eq, gI_ne, gB_eq, gB_ne, gJ_eq, gJ_ne, gL_sI, gI_sL, gI_sB, gI_sJ, gL_sB, gL_sJ, gB_sI, gB_sL, gB_sJ, gJ_sI, gJ_sL, gJ_sB]) (fun a => by simp -implicitDefEqProofs (disch := decide) only [gL_eq, gL_ne, gI_eq, gI_ne, gB_eq, gB_ne, gJ_eq, gJ_ne, gL_sI, gI_sL, gI_sB, gI_sJ, gL_sB, gL_sJ, gB_sI, gB_sL, gB_sJ, gJ_sI, gJ_sL, gJ_sB])
theorem ni_8 {M : Mem} {x b : Int32} (n : NI M) : NI (f_X6_announceLeap M x b).2 := by
  rw [ann6]
  by_cases h1 : f_X5_isWithin x 0 20 = 0
  · rw [if_pos h1]; exact NI_0 n
  · rw [if_neg h1]
    by_cases h2 : gB M 0 x.toNatClampNeg = 0
    · rw [if_pos h2]
      by_cases h3 : f_X6_reading M < f_X6_smearFrom (nI x.toNatClampNeg)
      · rw [if_pos h3]
        refine NI_cfg n (by simp -implicitDefEqProofs (disch := decide) only [gL_eq, gL_ne, gI_eq, gI_ne, gB_eq, gB_ne, gJ_eq, gJ_ne, gL_sI, gI_sL, gI_sB, gI_sJ, gL_sB, gL_sJ, gB_sI, gB_sL, gB_sJ, gJ_sI, gJ_sL, gJ_sB]; exact n.1.2.2.1) (by simp -implicitDefEqProofs (disch := decide) only [gL_eq, gL_ne, gI_eq, gI_ne, gB_eq, gB_ne, gJ_eq, gJ_ne, gL_sI, gI_sL, gI_sB, gI_sJ, gL_sB, gL_sJ, gB_sI, gB_sL, gB_sJ, gJ_sI, gJ_sL, gJ_sB]; exact n.1.2.2.2) (by rw [sn_sB, sn_sI0 (by decide)]) (by simp -implicitDefEqProofs (disch := decide) only [gL_eq, gL_ne, gI_eq, gI_ne, gB_eq, gB_ne, gJ_eq, gJ_ne, gL_sI, gI_sL, gI_sB, gI_sJ, gL_sB, gL_sJ, gB_sI, gB_sL, gB_sJ, gJ_sI, gJ_sL, gJ_sB]) (by simp -implicitDefEqProofs (disch := decide) only [gL_eq, gL_ne, gI_eq, gI_ne, gB_eq, gB_ne, gJ_eq, gJ_ne, gL_sI, gI_sL, gI_sB, gI_sJ, gL_sB, gL_sJ, gB_sI, gB_sL, gB_sJ, gJ_sI, gJ_sL, gJ_sB]) (fun a h _ => by rw [gB_ne (by omega), gB_sI]) (fun a => by simp -implicitDefEqProofs (disch := decide) only [gL_eq, gL_ne, gI_eq, gI_ne, gB_eq, gB_ne, gJ_eq, gJ_ne, gL_sI, gI_sL, gI_sB, gI_sJ, gL_sB, gL_sJ, gB_sI, gB_sL, gB_sJ, gJ_sI, gJ_sL, gJ_sB])
      · rw [if_neg h3]; exact NI_0 n
    · rw [if_neg h2]; exact NI_0 n
theorem rst6_rd {M : Mem} {x : Int32} : NI M → NI (f_X6_restart M x) := by
  intro n
  obtain ⟨f, -, e⟩ := rst6 (M := M) (x := x)
  rw [e]
  by_cases h1 : f_X5_isWithin x (-1000000000) 1000000000 = 0
  · rw [if_pos h1]; exact NI_0 n
  · rw [if_neg h1]
    have hw := within_1 h1
    rw [show (-1000000000 : Int32).toInt = -1000000000 by decide, show (1000000000 : Int32).toInt = 1000000000 by decide] at hw
    have e1 : (x.toInt64 * 1000000).toInt = x.toInt * 1000000 := by rw [l_mul, Int32.toInt_toInt64, mil_i]; rw [Int32.toInt_toInt64, mil_i]; omega
    have e0 : (0 : Int64).toInt = 0 := by decide
    have e00 : (0 : Int32).toInt = 0 := by decide
    refine ⟨?_, fun k hk => ?_⟩
    · unfold okG dev picI nowI
      simp -implicitDefEqProofs (disch := decide) only [gL_eq, gL_ne, gI_eq, gI_ne, gB_eq, gB_ne, gJ_eq, gJ_ne, gL_sI, gI_sL, gI_sB, gI_sJ, gL_sB, gL_sJ, gB_sI, gB_sL, gB_sJ, gJ_sI, gJ_sL, gJ_sB]
      rw [e1, e0, e00]
      omega
    · rw [sn_sB, sn, gI_eq] at hk
      exact absurd hk (by rw [show (0 : Int32).toNatClampNeg = 0 by decide]; omega)
/-! addServer, setError -/
theorem kn_set {M : Mem} {n k : Nat} {p0 p1 p2 p3 : Int32} : kn (set6 M n p0 p1 p2 p3) k = if k = n then 0 else kn M k := by
  unfold set6 kn
  simp -implicitDefEqProofs (disch := decide) only [gL_eq, gL_ne, gI_eq, gI_ne, gB_eq, gB_ne, gJ_eq, gJ_ne, gL_sI, gI_sL, gI_sB, gI_sJ, gL_sB, gL_sJ, gB_sI, gB_sL, gB_sJ, gJ_sI, gJ_sL, gJ_sB]
  by_cases e : k = n
  · rw [if_pos e, e, upd_eq]; decide
  · rw [if_neg e, upd_ne e]
theorem sn_set {M : Mem} {n : Nat} {p0 p1 p2 p3 : Int32} (hn : n < 100) : sn (set6 M n p0 p1 p2 p3) = n + 1 := by
  unfold set6
  exact sn_sI (by omega) rfl
theorem ni_10 {M : Mem} {p0 p1 p2 p3 : Int32} (n : NI M) (w : WFm M) : NI (f_X6_addServer M p0 p1 p2 p3).2 := by
  obtain ⟨hs8, hs⟩ := WFs w
  by_cases h : okS p0 p1 p2 p3
  · by_cases h8 : nI (sn M) = 8
    · rw [add6_full h h8]; exact NI_0 n
    · rw [add6_ok h h8 hs8]
      obtain ⟨-, h1, h2, h3⟩ := h
      have w1 := within_1 h1
      have w2 := within_1 h2
      have w3 := within_1 h3
      rw [show (-1000000 : Int32).toInt = -1000000 by decide, show (1000000 : Int32).toInt = 1000000 by decide] at w1
      rw [show (0 : Int32).toInt = 0 by decide, show (1000000 : Int32).toInt = 1000000 by decide] at w2 w3
      refine ⟨?_, fun k hk => ?_⟩
      · have a := n.1
        unfold okG dev picI nowI at a ⊢
        show (0 ≤ (gL (set6 M (sn M) p0 p1 p2 p3) 0).toInt ∧ (gL (set6 M (sn M) p0 p1 p2 p3) 0).toInt ≤ 1000000000000) ∧ _
        unfold set6
        simp -implicitDefEqProofs (disch := decide) only [gL_eq, gL_ne, gI_eq, gI_ne, gB_eq, gB_ne, gJ_eq, gJ_ne, gL_sI, gI_sL, gI_sB, gI_sJ, gL_sB, gL_sJ, gB_sI, gB_sL, gB_sJ, gJ_sI, gJ_sL, gJ_sB]
        exact a
      · have hk' : k < sn M + 1 := by have := sn_set (M := M) (n := sn M) (p0 := p0) (p1 := p1) (p2 := p2) (p3 := p3) (by omega); rw [← this]; exact hk
        show okV (set6 M (sn M) p0 p1 p2 p3) k
        unfold okV
        rw [kn_set]
        by_cases e : k = sn M
        · rw [if_pos e, e]
          refine ⟨?_, ?_, ?_, fun t ht => absurd ht (Nat.not_lt_zero t)⟩
          · unfold set6; simp -implicitDefEqProofs (disch := decide) only [gL_eq, gL_ne, gI_eq, gI_ne, gB_eq, gB_ne, gJ_eq, gJ_ne, gL_sI, gI_sL, gI_sB, gI_sJ, gL_sB, gL_sJ, gB_sI, gB_sL, gB_sJ, gJ_sI, gJ_sL, gJ_sB, upd_eq]; exact w1
          · unfold set6; simp -implicitDefEqProofs (disch := decide) only [gL_eq, gL_ne, gI_eq, gI_ne, gB_eq, gB_ne, gJ_eq, gJ_ne, gL_sI, gI_sL, gI_sB, gI_sJ, gL_sB, gL_sJ, gB_sI, gB_sL, gB_sJ, gJ_sI, gJ_sL, gJ_sB, upd_eq]; exact w2
          · unfold set6; simp -implicitDefEqProofs (disch := decide) only [gL_eq, gL_ne, gI_eq, gI_ne, gB_eq, gB_ne, gJ_eq, gJ_ne, gL_sI, gI_sL, gI_sB, gI_sJ, gL_sB, gL_sJ, gB_sI, gB_sL, gB_sJ, gJ_sI, gJ_sL, gJ_sB, upd_eq]; exact w3
        · rw [if_neg e]
          have a := n.2 k (by omega)
          unfold okV at a
          unfold dev picI nowI at a ⊢
          unfold set6
          simp -implicitDefEqProofs (disch := decide) only [gL_eq, gL_ne, gI_eq, gI_ne, gB_eq, gB_ne, gJ_eq, gJ_ne, gL_sI, gI_sL, gI_sB, gI_sJ, gL_sB, gL_sJ, gB_sI, gB_sL, gB_sJ, gJ_sI, gJ_sL, gJ_sB]
          rw [upd_ne e, upd_ne e, upd_ne e]
          exact a
  · rw [add6_no h]; exact NI_0 n
theorem err6 {M : Mem} {x y : Int32} : f_X6_setError M x y = if f_X6_isServer M x = 0 then (0, sI M 0 1) else if f_X5_isWithin y (-1000000) 1000000 = 0 then (0, sI M 0 2) else (gB M 2 x.toNatClampNeg, sB (sI M 0 0) 2 (upd (gB M 2) x.toNatClampNeg y)) := by
  simp -implicitDefEqProofs (disch := decide) only [f_X6_setError, bnd_e, bnd2_e, ref_e, gL_eq, gL_ne, gI_eq, gI_ne, gB_eq, gB_ne, gJ_eq, gJ_ne, gL_sI, gI_sL, gI_sB, gI_sJ, gL_sB, gL_sJ, gB_sI, gB_sL, gB_sJ, gJ_sI, gJ_sL, gJ_sB, wi_in (x := y) (a := -1000000) (b := 1000000) (a' := -1000000) (b' := 1000000) (by decide) (by decide)]
theorem ni_11 {M : Mem} {x y : Int32} (n : NI M) : NI (f_X6_setError M x y).2 := by
  rw [err6]
  by_cases h1 : f_X6_isServer M x = 0
  · rw [if_pos h1]; exact NI_0 n
  · rw [if_neg h1]
    by_cases h2 : f_X5_isWithin y (-1000000) 1000000 = 0
    · rw [if_pos h2]; exact NI_0 n
    · rw [if_neg h2]
      have w1 := within_1 h2
      rw [show (-1000000 : Int32).toInt = -1000000 by decide, show (1000000 : Int32).toInt = 1000000 by decide] at w1
      refine ⟨?_, fun k hk => ?_⟩
      · have a := n.1
        unfold okG dev picI nowI at a ⊢
        simp -implicitDefEqProofs (disch := decide) only [gL_eq, gL_ne, gI_eq, gI_ne, gB_eq, gB_ne, gJ_eq, gJ_ne, gL_sI, gI_sL, gI_sB, gI_sJ, gL_sB, gL_sJ, gB_sI, gB_sL, gB_sJ, gJ_sI, gJ_sL, gJ_sB]
        exact a
      · have a := n.2 k (by rw [sn_sB, sn_sI0 (by decide)] at hk; exact hk)
        have ek : kn (sB (sI M 0 0) 2 (upd (gB M 2) x.toNatClampNeg y)) k = kn M k := by unfold kn; simp -implicitDefEqProofs (disch := decide) only [gL_eq, gL_ne, gI_eq, gI_ne, gB_eq, gB_ne, gJ_eq, gJ_ne, gL_sI, gI_sL, gI_sB, gI_sJ, gL_sB, gL_sJ, gB_sI, gB_sL, gB_sJ, gJ_sI, gJ_sL, gJ_sB]
        unfold okV at a ⊢
        rw [ek]
        unfold dev picI nowI at a ⊢
        simp -implicitDefEqProofs (disch := decide) only [gL_eq, gL_ne, gI_eq, gI_ne, gB_eq, gB_ne, gJ_eq, gJ_ne, gL_sI, gI_sL, gI_sB, gI_sJ, gL_sB, gL_sJ, gB_sI, gB_sL, gB_sJ, gJ_sI, gJ_sL, gJ_sB]
        refine ⟨?_, a.2⟩
        by_cases e : k = x.toNatClampNeg
        · rw [e, upd_eq]; exact w1
        · rw [upd_ne e]; exact a.1
