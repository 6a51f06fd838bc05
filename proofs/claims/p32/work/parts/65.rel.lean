/-! the whole relation of the two memories -/
def RR (Mc Mm : Mem) : Prop := RS Mc Mm ∧ RLp Mc Mm ∧ ∀ k, k < sn Mm → VS Mc Mm k
theorem best_cg {M M' : Mem} (hk : ∀ j, kn M' j = kn M j) (hJ : gJ M' 1 = gJ M 1) (j : Nat) : bx M' j = bx M j := by
  have L : ∀ r i b, f_X6_best_L10 M' j r i b = f_X6_best_L10 M j r i b := by
    intro r
    induction r with
    | zero => intro i b; rw [f_X6_best_L10, f_X6_best_L10]
    | succ r ih => intro i b; rw [f_X6_best_L10, f_X6_best_L10, hk, hJ, ih, ih]
  unfold bx
  rw [f_X6_best, f_X6_best, hk, L]
theorem VS_mv {Mc Mc' Mm Mm' : Mem} {k : Nat} (v : VS Mc Mm k) (hI : ∀ i, 11 ≤ i → gI Mc' i = gI Mc i) (hL : ∀ i, 6 ≤ i → gL Mc' i = gL Mc i) (hJ : ∀ r, 4 ≤ r → gJ Mc' r = gJ Mc r) (mB : ∀ a, 1 ≤ a → a ≤ 5 → gB Mm' a = gB Mm a) (mJ : ∀ a, gJ Mm' a = gJ Mm a) : VS Mc' Mm' k := by
  have ek : ∀ j, kn Mm' j = kn Mm j := fun j => by rw [kn, kn, mB 5 (by omega) (by omega)]
  have eb := best_cg ek (mJ 1) k
  obtain ⟨v1, v2, v6, v7, vc, vt, vb⟩ := v
  refine ⟨?_, ?_, ?_, ?_, ?_, fun t ht => ?_, fun h => ?_⟩
  · rw [hI _ (by omega), mB 1 (by omega) (by omega)]; exact v1
  · rw [hI _ (by omega), mB 2 (by omega) (by omega)]; exact v2
  · rw [hL _ (by omega), mB 3 (by omega) (by omega)]; exact v6
  · rw [hL _ (by omega), mB 4 (by omega) (by omega)]; exact v7
  · rw [hI _ (by omega), ek]; exact vc
  · rw [ek] at ht ⊢
    rw [hJ _ (by omega), hJ _ (by omega), hJ _ (by omega), mJ, mJ, mJ]
    exact vt t ht
  · rw [ek] at h ⊢
    rw [hI _ (by omega), eb]
    exact vb h
theorem RS_c {Mc Mc' Mm : Mem} (h : RS Mc Mm) (g : EC Mc Mc') : RS Mc' Mm := by
  obtain ⟨a1, a2, a3, a4, a5, a6, a7, a8, a9⟩ := h
  exact ⟨(g.2.1 0 (by decide) (by decide)).trans a1, (g.2.1 2 (by decide) (by decide)).trans a2, (g.2.1 3 (by decide) (by decide)).trans a3, (g.1 4 (by decide) (by decide) (by decide)).trans a4, (g.1 5 (by decide) (by decide) (by decide)).trans a5, (g.1 2 (by decide) (by decide) (by decide)).trans a6, (g.1 3 (by decide) (by decide) (by decide)).trans a7, (g.2.1 1 (by decide) (by decide)).trans a8, (g.1 0 (by decide) (by decide) (by decide)).trans a9⟩
theorem RS_m {Mc Mm Mm' : Mem} (h : RS Mc Mm) (g : EQ Mm Mm') : RS Mc Mm' := by
  obtain ⟨a1, a2, a3, a4, a5, a6, a7, a8, a9⟩ := h
  exact ⟨a1.trans (g.2.1 0 (by decide) (by decide)).symm, a2.trans (g.2.1 1 (by decide) (by decide)).symm, a3.trans (g.2.1 2 (by decide) (by decide)).symm, a4.trans (g.1 1 (by decide) (by decide) (by decide)).symm, a5.trans (g.1 2 (by decide) (by decide) (by decide)).symm, a6.trans (g.1 3 (by decide) (by decide) (by decide)).symm, a7.trans (g.1 4 (by decide) (by decide) (by decide)).symm, a8.trans (g.2.1 3 (by decide) (by decide)).symm, a9.trans (g.1 6 (by decide) (by decide) (by decide)).symm⟩
theorem RLp_of {Mc Mc' Mm Mm' : Mem} (h : RLp Mc Mm) (h6 : gI Mc' 6 = gI Mc 6) (h7 : gI Mc' 7 = gI Mc 7) (hB : gB Mm' 0 = gB Mm 0) : RLp Mc' Mm' := by
  intro d hd
  rw [h6, h7, hB]
  exact h d hd
theorem RR_c {Mc Mc' Mm : Mem} (h : RR Mc Mm) (g : EC Mc Mc') : RR Mc' Mm :=
  ⟨RS_c h.1 g, RLp_of h.2.1 (g.1 6 (by decide) (by decide) (by decide)) (g.1 7 (by decide) (by decide) (by decide)) rfl, fun k hk => VS_mv (h.2.2 k hk) (fun i hi => g.1 i (by omega) (by omega) (by omega)) (fun i hi => g.2.1 i (by omega) (by omega)) (fun r hr => g.2.2 r hr) (fun _ _ _ => rfl) (fun _ => rfl)⟩
theorem RR_m {Mc Mm Mm' : Mem} (h : RR Mc Mm) (g : EQ Mm Mm') : RR Mc Mm' :=
  ⟨RS_m h.1 g, RLp_of h.2.1 rfl rfl (g.2.2.1 0 (by decide) (by decide)), fun k hk => VS_mv (h.2.2 k (by rw [EQ_sn g] at hk; exact hk)) (fun _ _ => rfl) (fun _ _ => rfl) (fun _ _ => rfl) (fun a h1 h2 => g.2.2.1 a (by omega) (by omega)) (fun a => g.2.2.2 a)⟩
theorem RR_0 {Mc Mm : Mem} {v : Int32} (h : RR Mc Mm) : RR Mc (sI Mm 0 v) := RR_m h EQ_0
theorem RR_go {Mc Mm : Mem} {t : Int32} (h0 : 0 ≤ t.toInt) (h : RR Mc Mm) : RR (f_X5_elapse Mc t) (f_X6_goOn Mm t) := by
  refine ⟨RS_go h0 h.1, RLp_of h.2.1 ?_ ?_ ?_, fun k hk => VS_mv (h.2.2 k ?_) (fun i hi => ?_) (fun i hi => ?_) (fun r hr => ?_) (fun a _ _ => ?_) (fun a => ?_)⟩
  · rw [el5 h0]; simp -implicitDefEqProofs (disch := decide) only [gL_eq, gL_ne, gI_eq, gI_ne, gB_eq, gB_ne, gJ_eq, gJ_ne, gL_sI, gI_sL, gI_sB, gI_sJ, gL_sB, gL_sJ, gB_sI, gB_sL, gB_sJ, gJ_sI, gJ_sL, gJ_sB]
  · rw [el5 h0]; simp -implicitDefEqProofs (disch := decide) only [gL_eq, gL_ne, gI_eq, gI_ne, gB_eq, gB_ne, gJ_eq, gJ_ne, gL_sI, gI_sL, gI_sB, gI_sJ, gL_sB, gL_sJ, gB_sI, gB_sL, gB_sJ, gJ_sI, gJ_sL, gJ_sB]
  · rw [go6]; simp -implicitDefEqProofs (disch := decide) only [gL_eq, gL_ne, gI_eq, gI_ne, gB_eq, gB_ne, gJ_eq, gJ_ne, gL_sI, gI_sL, gI_sB, gI_sJ, gL_sB, gL_sJ, gB_sI, gB_sL, gB_sJ, gJ_sI, gJ_sL, gJ_sB]
  · rw [go6, sn_sL, sn_sL, sn_sL] at hk; exact hk
  · rw [el5 h0]; simp -implicitDefEqProofs (disch := decide) only [gL_eq, gL_ne, gI_eq, gI_ne, gB_eq, gB_ne, gJ_eq, gJ_ne, gL_sI, gI_sL, gI_sB, gI_sJ, gL_sB, gL_sJ, gB_sI, gB_sL, gB_sJ, gJ_sI, gJ_sL, gJ_sB]
  · rw [el5 h0]; simp -implicitDefEqProofs (disch := omega) only [gL_eq, gL_ne, gI_eq, gI_ne, gB_eq, gB_ne, gJ_eq, gJ_ne, gL_sI, gI_sL, gI_sB, gI_sJ, gL_sB, gL_sJ, gB_sI, gB_sL, gB_sJ, gJ_sI, gJ_sL, gJ_sB]
  · rw [el5 h0]; simp -implicitDefEqProofs (disch := decide) only [gL_eq, gL_ne, gI_eq, gI_ne, gB_eq, gB_ne, gJ_eq, gJ_ne, gL_sI, gI_sL, gI_sB, gI_sJ, gL_sB, gL_sJ, gB_sI, gB_sL, gB_sJ, gJ_sI, gJ_sL, gJ_sB]
  · rw [go6]; simp -implicitDefEqProofs (disch := decide) only [gL_eq, gL_ne, gI_eq, gI_ne, gB_eq, gB_ne, gJ_eq, gJ_ne, gL_sI, gI_sL, gI_sB, gI_sJ, gL_sB, gL_sJ, gB_sI, gB_sL, gB_sJ, gJ_sI, gJ_sL, gJ_sB]
  · rw [go6]; simp -implicitDefEqProofs (disch := decide) only [gL_eq, gL_ne, gI_eq, gI_ne, gB_eq, gB_ne, gJ_eq, gJ_ne, gL_sI, gI_sL, gI_sB, gI_sJ, gL_sB, gL_sJ, gB_sI, gB_sL, gB_sJ, gJ_sI, gJ_sL, gJ_sB]
theorem z_21 : (0 : Int32).toNatClampNeg = 0 := by decide
theorem r_0 {Mc Mm : Mem} {x : Int32} (h : RR Mc Mm) : RR (f_X5_restart Mc x).2 (f_X6_restart Mm x) := by
  obtain ⟨f, hf, e⟩ := rst6 (M := Mm) (x := x)
  have hs := rs_0 (x := x) h.1
  rw [rst5, e] at hs ⊢
  by_cases h1 : f_X5_isWithin x (-1000000000) 1000000000 = 0
  · rw [if_pos h1, if_pos h1]; exact RR_0 h
  · rw [if_neg h1, if_neg h1] at hs ⊢
    dsimp only at hs ⊢
    refine ⟨hs, fun d hd => Or.inl ⟨?_, ?_, ?_⟩, fun k hk => ?_⟩
    · rw [gB_eq]; exact hf d hd
    · rw [beg5]; simp -implicitDefEqProofs (disch := decide) only [gL_eq, gL_ne, gI_eq, gI_ne, gB_eq, gB_ne, gJ_eq, gJ_ne, gL_sI, gI_sL, gI_sB, gI_sJ, gL_sB, gL_sJ, gB_sI, gB_sL, gB_sJ, gJ_sI, gJ_sL, gJ_sB]; exact b_0 d
    · rw [beg5]; simp -implicitDefEqProofs (disch := decide) only [gL_eq, gL_ne, gI_eq, gI_ne, gB_eq, gB_ne, gJ_eq, gJ_ne, gL_sI, gI_sL, gI_sB, gI_sJ, gL_sB, gL_sJ, gB_sI, gB_sL, gB_sJ, gJ_sI, gJ_sL, gJ_sB]; exact b_0 d
    · rw [sn_sB, sn, gI_eq, z_21] at hk; exact absurd hk (Nat.not_lt_zero k)
theorem r_1 {Mc Mm : Mem} {x : Int32} (h : RR Mc Mm) : RR (f_X5_pass Mc x).2.2 (f_X6_pass Mm x).2 := by
  rw [pass5, pass6]
  by_cases h1 : f_X5_isWithin x 1 1000000000 = 0
  · rw [if_pos h1, if_pos h1]; exact RR_0 h
  · rw [if_neg h1, if_neg h1, h.1.1]
    by_cases h2 : (1000000000000 : Int64) < gL Mm 0 + x.toInt64
    · rw [if_pos h2, if_pos h2]; exact RR_0 h
    · rw [if_neg h2, if_neg h2]
      have hw := within_1 h1
      have h0 : 0 ≤ x.toInt := by have : (1 : Int32).toInt = 1 := by decide
                                  omega
      exact RR_go h0 (RR_0 h)
theorem r_2 {Mc Mm : Mem} {x : Int32} (h : RR Mc Mm) : RR (f_X5_setDrift Mc x).2.2 (f_X6_setDrift Mm x).2 := by
  have hs := rs_2 (x := x) h.1
  rw [drift5, drift6] at hs ⊢
  by_cases h1 : f_X5_isWithin x (-300) 300 = 0
  · rw [if_pos h1, if_pos h1]; exact RR_0 h
  · rw [if_neg h1, if_neg h1] at hs ⊢
    dsimp only at hs ⊢
    refine ⟨hs, RLp_of h.2.1 (by simp -implicitDefEqProofs (disch := decide) only [gL_eq, gL_ne, gI_eq, gI_ne, gB_eq, gB_ne, gJ_eq, gJ_ne, gL_sI, gI_sL, gI_sB, gI_sJ, gL_sB, gL_sJ, gB_sI, gB_sL, gB_sJ, gJ_sI, gJ_sL, gJ_sB]) (by simp -implicitDefEqProofs (disch := decide) only [gL_eq, gL_ne, gI_eq, gI_ne, gB_eq, gB_ne, gJ_eq, gJ_ne, gL_sI, gI_sL, gI_sB, gI_sJ, gL_sB, gL_sJ, gB_sI, gB_sL, gB_sJ, gJ_sI, gJ_sL, gJ_sB]) (by simp -implicitDefEqProofs (disch := decide) only [gL_eq, gL_ne, gI_eq, gI_ne, gB_eq, gB_ne, gJ_eq, gJ_ne, gL_sI, gI_sL, gI_sB, gI_sJ, gL_sB, gL_sJ, gB_sI, gB_sL, gB_sJ, gJ_sI, gJ_sL, gJ_sB]), fun k hk => VS_mv (h.2.2 k ?_) (fun i hi => gI_ne (by omega)) (fun i hi => gL_sI) (fun r hr => gJ_sI) (fun a _ _ => by simp -implicitDefEqProofs (disch := decide) only [gL_eq, gL_ne, gI_eq, gI_ne, gB_eq, gB_ne, gJ_eq, gJ_ne, gL_sI, gI_sL, gI_sB, gI_sJ, gL_sB, gL_sJ, gB_sI, gB_sL, gB_sJ, gJ_sI, gJ_sL, gJ_sB]) (fun a => by simp -implicitDefEqProofs (disch := decide) only [gL_eq, gL_ne, gI_eq, gI_ne, gB_eq, gB_ne, gJ_eq, gJ_ne, gL_sI, gI_sL, gI_sB, gI_sJ, gL_sB, gL_sJ, gB_sI, gB_sL, gB_sJ, gJ_sI, gJ_sL, gJ_sB])⟩
    rw [sn_sI0 (by decide), sn_sI0 (by decide)] at hk
    exact hk
theorem r_8 {Mc Mm : Mem} {x b : Int32} (h : RR Mc Mm) : RR (f_X5_announceLeap Mc x b).2.2 (f_X6_announceLeap Mm x b).2 := by
  rw [ann5, ann6]
  by_cases h1 : f_X5_isWithin x 0 20 = 0
  · rw [if_pos h1, if_pos h1]; exact RR_0 h
  · rw [if_neg h1, if_neg h1]
    obtain ⟨d, hd, rfl⟩ := day_of h1
    rw [nI_clamp (by omega), smear_eq hd, RS_rd h.1]
    by_cases h2 : gB Mm 0 d = 0
    · rw [if_pos ((ann_e h.2.1 hd).mpr h2), if_pos h2]
      by_cases h3 : f_X6_reading Mm < f_X6_smearFrom (nI d)
      · rw [if_pos h3, if_pos h3]
        have hz : bt (gI Mc 6) d = false ∧ bt (gI Mc 7) d = false := by
          rcases h.2.1 d hd with ⟨g1, g2, g3⟩ | ⟨g1, g2, g3⟩ | ⟨g1, g2, g3⟩
          · exact ⟨g2, g3⟩
          · rw [g1] at h2; exact absurd h2 (by decide)
          · rw [g1] at h2; exact absurd h2 (by decide)
        by_cases hb : b = 0
        · rw [if_pos hb, if_pos hb]
          refine ⟨?_, fun e he => ?_, fun k hk => VS_mv (h.2.2 k ?_) (fun i hi => gI_ne (by omega)) (fun i hi => gL_sI) (fun r hr => gJ_sI) (fun a h1 _ => by rw [gB_ne (by omega), gB_sI]) (fun a => by simp -implicitDefEqProofs (disch := decide) only [gL_eq, gL_ne, gI_eq, gI_ne, gB_eq, gB_ne, gJ_eq, gJ_ne, gL_sI, gI_sL, gI_sB, gI_sJ, gL_sB, gL_sJ, gB_sI, gB_sL, gB_sJ, gJ_sI, gJ_sL, gJ_sB])⟩
          · obtain ⟨a1, a2, a3, a4, a5, a6, a7, a8, a9⟩ := h.1
            unfold RS
            simp -implicitDefEqProofs (disch := decide) only [gL_eq, gL_ne, gI_eq, gI_ne, gB_eq, gB_ne, gJ_eq, gJ_ne, gL_sI, gI_sL, gI_sB, gI_sJ, gL_sB, gL_sJ, gB_sI, gB_sL, gB_sJ, gJ_sI, gJ_sL, gJ_sB, a1, a2, a3, a4, a5, a6, a7, a8, a9, and_self]
          · dsimp only
            rw [gB_eq, gI_ne (by decide), gI_eq, bt_set (by omega) (by omega)]
            by_cases ed : e = d
            · rw [ed, upd_eq, hz.1, hz.2]
              exact Or.inr (Or.inr ⟨rfl, rfl, by simp⟩)
            · rw [upd_ne ed, decide_eq_false ed, Bool.or_false]
              exact h.2.1 e he
          · rw [sn_sB, sn_sI0 (by decide)] at hk; exact hk
        · rw [if_neg hb, if_neg hb]
          refine ⟨?_, fun e he => ?_, fun k hk => VS_mv (h.2.2 k ?_) (fun i hi => gI_ne (by omega)) (fun i hi => gL_sI) (fun r hr => gJ_sI) (fun a h1 _ => by rw [gB_ne (by omega), gB_sI]) (fun a => by simp -implicitDefEqProofs (disch := decide) only [gL_eq, gL_ne, gI_eq, gI_ne, gB_eq, gB_ne, gJ_eq, gJ_ne, gL_sI, gI_sL, gI_sB, gI_sJ, gL_sB, gL_sJ, gB_sI, gB_sL, gB_sJ, gJ_sI, gJ_sL, gJ_sB])⟩
          · obtain ⟨a1, a2, a3, a4, a5, a6, a7, a8, a9⟩ := h.1
            unfold RS
            simp -implicitDefEqProofs (disch := decide) only [gL_eq, gL_ne, gI_eq, gI_ne, gB_eq, gB_ne, gJ_eq, gJ_ne, gL_sI, gI_sL, gI_sB, gI_sJ, gL_sB, gL_sJ, gB_sI, gB_sL, gB_sJ, gJ_sI, gJ_sL, gJ_sB, a1, a2, a3, a4, a5, a6, a7, a8, a9, and_self]
          · dsimp only
            rw [gB_eq, gI_eq, gI_ne (by decide), bt_set (by omega) (by omega)]
            by_cases ed : e = d
            · rw [ed, upd_eq, hz.1, hz.2]
              exact Or.inr (Or.inl ⟨rfl, by simp, rfl⟩)
            · rw [upd_ne ed, decide_eq_false ed, Bool.or_false]
              exact h.2.1 e he
          · rw [sn_sB, sn_sI0 (by decide)] at hk; exact hk
      · rw [if_neg h3, if_neg h3]; exact RR_0 h
    · rw [if_neg (fun q => h2 ((ann_e h.2.1 hd).mp q)), if_neg h2]; exact RR_0 h
theorem r_10 {Mc Mm : Mem} {p0 p1 p2 p3 : Int32} (w : WFm Mm) (h : RR Mc Mm) : RR (f_X5_addServer Mc p0 p1 p2 p3).2.2 (f_X6_addServer Mm p0 p1 p2 p3).2 := by
  rcases add_cases w h.1.2.2.2.2.2.2.2.2 p0 p1 p2 p3 with ⟨e1, e2⟩ | ⟨e1, e2⟩ | ⟨-, hn, e1, e2⟩ <;> rw [e1, e2]
  · exact RR_0 h
  · exact RR_0 h
  · dsimp only
    have ek : ∀ k, k ≠ sn Mm → kn (set6 Mm (sn Mm) p0 p1 p2 p3) k = kn Mm k := fun k hk => by rw [kn_set, if_neg hk]
    refine ⟨?_, RLp_of h.2.1 ?_ ?_ ?_, fun k hk => ?_⟩
    · obtain ⟨a1, a2, a3, a4, a5, a6, a7, a8, a9⟩ := h.1
      unfold RS set5 set6
      simp -implicitDefEqProofs (disch := omega) only [gL_eq, gL_ne, gI_eq, gI_ne, gB_eq, gB_ne, gJ_eq, gJ_ne, gL_sI, gI_sL, gI_sB, gI_sJ, gL_sB, gL_sJ, gB_sI, gB_sL, gB_sJ, gJ_sI, gJ_sL, gJ_sB, a1, a2, a3, a4, a5, a6, a7, a8, and_self]
    · unfold set5; simp -implicitDefEqProofs (disch := omega) only [gL_eq, gL_ne, gI_eq, gI_ne, gB_eq, gB_ne, gJ_eq, gJ_ne, gL_sI, gI_sL, gI_sB, gI_sJ, gL_sB, gL_sJ, gB_sI, gB_sL, gB_sJ, gJ_sI, gJ_sL, gJ_sB]
    · unfold set5; simp -implicitDefEqProofs (disch := omega) only [gL_eq, gL_ne, gI_eq, gI_ne, gB_eq, gB_ne, gJ_eq, gJ_ne, gL_sI, gI_sL, gI_sB, gI_sJ, gL_sB, gL_sJ, gB_sI, gB_sL, gB_sJ, gJ_sI, gJ_sL, gJ_sB]
    · unfold set6; simp -implicitDefEqProofs (disch := decide) only [gL_eq, gL_ne, gI_eq, gI_ne, gB_eq, gB_ne, gJ_eq, gJ_ne, gL_sI, gI_sL, gI_sB, gI_sJ, gL_sB, gL_sJ, gB_sI, gB_sL, gB_sJ, gJ_sI, gJ_sL, gJ_sB]
    · rw [sn_set (by omega)] at hk
      by_cases e : k = sn Mm
      · subst e
        have k0 : kn (set6 Mm (sn Mm) p0 p1 p2 p3) (sn Mm) = 0 := by rw [kn_set, if_pos rfl]
        refine ⟨?_, ?_, ?_, ?_, ?_, fun t ht => ?_, fun h9 => ?_⟩
        · unfold set5 set6; simp -implicitDefEqProofs (disch := omega) only [gL_eq, gL_ne, gI_eq, gI_ne, gB_eq, gB_ne, gJ_eq, gJ_ne, gL_sI, gI_sL, gI_sB, gI_sJ, gL_sB, gL_sJ, gB_sI, gB_sL, gB_sJ, gJ_sI, gJ_sL, gJ_sB, upd_eq]
        · unfold set5 set6; simp -implicitDefEqProofs (disch := omega) only [gL_eq, gL_ne, gI_eq, gI_ne, gB_eq, gB_ne, gJ_eq, gJ_ne, gL_sI, gI_sL, gI_sB, gI_sJ, gL_sB, gL_sJ, gB_sI, gB_sL, gB_sJ, gJ_sI, gJ_sL, gJ_sB, upd_eq]
        · unfold set5 set6; simp -implicitDefEqProofs (disch := omega) only [gL_eq, gL_ne, gI_eq, gI_ne, gB_eq, gB_ne, gJ_eq, gJ_ne, gL_sI, gI_sL, gI_sB, gI_sJ, gL_sB, gL_sJ, gB_sI, gB_sL, gB_sJ, gJ_sI, gJ_sL, gJ_sB, upd_eq]
        · unfold set5 set6; simp -implicitDefEqProofs (disch := omega) only [gL_eq, gL_ne, gI_eq, gI_ne, gB_eq, gB_ne, gJ_eq, gJ_ne, gL_sI, gI_sL, gI_sB, gI_sJ, gL_sB, gL_sJ, gB_sI, gB_sL, gB_sJ, gJ_sI, gJ_sL, gJ_sB, upd_eq]
        · rw [k0]; unfold set5; simp -implicitDefEqProofs (disch := omega) only [gL_eq, gL_ne, gI_eq, gI_ne, gB_eq, gB_ne, gJ_eq, gJ_ne, gL_sI, gI_sL, gI_sB, gI_sJ, gL_sB, gL_sJ, gB_sI, gB_sL, gB_sJ, gJ_sI, gJ_sL, gJ_sB]; rfl
        · rw [k0] at ht; exact absurd ht (Nat.not_lt_zero t)
        · rw [k0] at h9; exact absurd h9 (Nat.lt_irrefl 0)
      · obtain ⟨v1, v2, v6, v7, vc, vt, vb⟩ := h.2.2 k (by omega)
        have eb : bx (set6 Mm (sn Mm) p0 p1 p2 p3) k = bx Mm k := by
          have L : ∀ r i b, f_X6_best_L10 (set6 Mm (sn Mm) p0 p1 p2 p3) k r i b = f_X6_best_L10 Mm k r i b := by
            have eJ : gJ (set6 Mm (sn Mm) p0 p1 p2 p3) 1 = gJ Mm 1 := by unfold set6; simp -implicitDefEqProofs (disch := decide) only [gL_eq, gL_ne, gI_eq, gI_ne, gB_eq, gB_ne, gJ_eq, gJ_ne, gL_sI, gI_sL, gI_sB, gI_sJ, gL_sB, gL_sJ, gB_sI, gB_sL, gB_sJ, gJ_sI, gJ_sL, gJ_sB]
            intro r
            induction r with
            | zero => intro i b; rw [f_X6_best_L10, f_X6_best_L10]
            | succ r ih => intro i b; rw [f_X6_best_L10, f_X6_best_L10, ek k e, eJ, ih, ih]
          unfold bx
          rw [f_X6_best, f_X6_best, ek k e, L]
        refine ⟨?_, ?_, ?_, ?_, ?_, fun t ht => ?_, fun h9 => ?_⟩
        · unfold set5 set6; simp -implicitDefEqProofs (disch := omega) only [gL_eq, gL_ne, gI_eq, gI_ne, gB_eq, gB_ne, gJ_eq, gJ_ne, gL_sI, gI_sL, gI_sB, gI_sJ, gL_sB, gL_sJ, gB_sI, gB_sL, gB_sJ, gJ_sI, gJ_sL, gJ_sB, upd_ne e]; exact v1
        · unfold set5 set6; simp -implicitDefEqProofs (disch := omega) only [gL_eq, gL_ne, gI_eq, gI_ne, gB_eq, gB_ne, gJ_eq, gJ_ne, gL_sI, gI_sL, gI_sB, gI_sJ, gL_sB, gL_sJ, gB_sI, gB_sL, gB_sJ, gJ_sI, gJ_sL, gJ_sB, upd_ne e]; exact v2
        · unfold set5 set6; simp -implicitDefEqProofs (disch := omega) only [gL_eq, gL_ne, gI_eq, gI_ne, gB_eq, gB_ne, gJ_eq, gJ_ne, gL_sI, gI_sL, gI_sB, gI_sJ, gL_sB, gL_sJ, gB_sI, gB_sL, gB_sJ, gJ_sI, gJ_sL, gJ_sB, upd_ne e]; exact v6
        · unfold set5 set6; simp -implicitDefEqProofs (disch := omega) only [gL_eq, gL_ne, gI_eq, gI_ne, gB_eq, gB_ne, gJ_eq, gJ_ne, gL_sI, gI_sL, gI_sB, gI_sJ, gL_sB, gL_sJ, gB_sI, gB_sL, gB_sJ, gJ_sI, gJ_sL, gJ_sB, upd_ne e]; exact v7
        · rw [ek k e]; unfold set5; simp -implicitDefEqProofs (disch := omega) only [gL_eq, gL_ne, gI_eq, gI_ne, gB_eq, gB_ne, gJ_eq, gJ_ne, gL_sI, gI_sL, gI_sB, gI_sJ, gL_sB, gL_sJ, gB_sI, gB_sL, gB_sJ, gJ_sI, gJ_sL, gJ_sB]; exact vc
        · rw [ek k e] at ht ⊢
          unfold set5 set6
          simp -implicitDefEqProofs (disch := omega) only [gL_eq, gL_ne, gI_eq, gI_ne, gB_eq, gB_ne, gJ_eq, gJ_ne, gL_sI, gI_sL, gI_sB, gI_sJ, gL_sB, gL_sJ, gB_sI, gB_sL, gB_sJ, gJ_sI, gJ_sL, gJ_sB]
          exact vt t ht
        · rw [ek k e] at h9 ⊢
          rw [eb]
          unfold set5
          simp -implicitDefEqProofs (disch := omega) only [gL_eq, gL_ne, gI_eq, gI_ne, gB_eq, gB_ne, gJ_eq, gJ_ne, gL_sI, gI_sL, gI_sB, gI_sJ, gL_sB, gL_sJ, gB_sI, gB_sL, gB_sJ, gJ_sI, gJ_sL, gJ_sB]
          exact vb h9
theorem r_11 {Mc Mm : Mem} {x y : Int32} (w : WFm Mm) (h : RR Mc Mm) : RR (f_X5_setError Mc x y).2.2 (f_X6_setError Mm x y).2 := by
  rcases er_cases w h.1.2.2.2.2.2.2.2.2 x y with ⟨e1, e2⟩ | ⟨e1, e2⟩ | ⟨j, hj, hj8, e1, e2⟩ <;> rw [e1, e2]
  · exact RR_0 h
  · exact RR_0 h
  · dsimp only
    have ek : ∀ k, kn (sB (sI Mm 0 0) 2 (upd (gB Mm 2) j y)) k = kn Mm k := fun k => by unfold kn; simp -implicitDefEqProofs (disch := decide) only [gL_eq, gL_ne, gI_eq, gI_ne, gB_eq, gB_ne, gJ_eq, gJ_ne, gL_sI, gI_sL, gI_sB, gI_sJ, gL_sB, gL_sJ, gB_sI, gB_sL, gB_sJ, gJ_sI, gJ_sL, gJ_sB]
    have eb : ∀ k, bx (sB (sI Mm 0 0) 2 (upd (gB Mm 2) j y)) k = bx Mm k := fun k => best_cg ek (by simp -implicitDefEqProofs (disch := decide) only [gL_eq, gL_ne, gI_eq, gI_ne, gB_eq, gB_ne, gJ_eq, gJ_ne, gL_sI, gI_sL, gI_sB, gI_sJ, gL_sB, gL_sJ, gB_sI, gB_sL, gB_sJ, gJ_sI, gJ_sL, gJ_sB]) k
    refine ⟨?_, RLp_of h.2.1 ?_ ?_ ?_, fun k hk => ?_⟩
    · obtain ⟨a1, a2, a3, a4, a5, a6, a7, a8, a9⟩ := h.1
      unfold RS
      simp -implicitDefEqProofs (disch := omega) only [gL_eq, gL_ne, gI_eq, gI_ne, gB_eq, gB_ne, gJ_eq, gJ_ne, gL_sI, gI_sL, gI_sB, gI_sJ, gL_sB, gL_sJ, gB_sI, gB_sL, gB_sJ, gJ_sI, gJ_sL, gJ_sB, a1, a2, a3, a4, a5, a6, a7, a8, a9, and_self]
    · exact gI_ne (by omega)
    · exact gI_ne (by omega)
    · simp -implicitDefEqProofs (disch := decide) only [gL_eq, gL_ne, gI_eq, gI_ne, gB_eq, gB_ne, gJ_eq, gJ_ne, gL_sI, gI_sL, gI_sB, gI_sJ, gL_sB, gL_sJ, gB_sI, gB_sL, gB_sJ, gJ_sI, gJ_sL, gJ_sB]
    · rw [sn_sB, sn_sI0 (by decide)] at hk
      obtain ⟨v1, v2, v6, v7, vc, vt, vb⟩ := h.2.2 k hk
      refine ⟨?_, ?_, ?_, ?_, ?_, fun t ht => ?_, fun h9 => ?_⟩
      · rw [gI_ne (by omega)]; simp -implicitDefEqProofs (disch := decide) only [gL_eq, gL_ne, gI_eq, gI_ne, gB_eq, gB_ne, gJ_eq, gJ_ne, gL_sI, gI_sL, gI_sB, gI_sJ, gL_sB, gL_sJ, gB_sI, gB_sL, gB_sJ, gJ_sI, gJ_sL, gJ_sB]; exact v1
      · rw [gB_eq]
        by_cases e : k = j
        · rw [e, gI_eq, upd_eq]
        · rw [gI_ne (by omega), upd_ne e]; exact v2
      · simp -implicitDefEqProofs (disch := decide) only [gL_eq, gL_ne, gI_eq, gI_ne, gB_eq, gB_ne, gJ_eq, gJ_ne, gL_sI, gI_sL, gI_sB, gI_sJ, gL_sB, gL_sJ, gB_sI, gB_sL, gB_sJ, gJ_sI, gJ_sL, gJ_sB]; exact v6
      · simp -implicitDefEqProofs (disch := decide) only [gL_eq, gL_ne, gI_eq, gI_ne, gB_eq, gB_ne, gJ_eq, gJ_ne, gL_sI, gI_sL, gI_sB, gI_sJ, gL_sB, gL_sJ, gB_sI, gB_sL, gB_sJ, gJ_sI, gJ_sL, gJ_sB]; exact v7
      · rw [ek, gI_ne (by omega)]; exact vc
      · rw [ek] at ht ⊢
        simp -implicitDefEqProofs (disch := decide) only [gL_eq, gL_ne, gI_eq, gI_ne, gB_eq, gB_ne, gJ_eq, gJ_ne, gL_sI, gI_sL, gI_sB, gI_sJ, gL_sB, gL_sJ, gB_sI, gB_sL, gB_sJ, gJ_sI, gJ_sL, gJ_sB]
        exact vt t ht
      · rw [ek] at h9 ⊢
        rw [eb, gI_ne (by omega)]
        exact vb h9
theorem kp_11f {Mc Mm : Mem} (w : WFm Mm) (h : RR Mc Mm) {x y : Int32} : cmpN (fun n => if n = 3 then 1 else if n = 1 then 2 else 0) (toJ (f_X5_setError Mc x y)) (toM (f_X6_setError Mm x y)) := by
  rcases er_cases w h.1.2.2.2.2.2.2.2.2 x y with ⟨e1, e2⟩ | ⟨e1, e2⟩ | ⟨j, hj, hj8, e1, e2⟩ <;> rw [e1, e2]
  · exact cI_thr (by decide) (by decide)
  · exact cI_thr (by decide) (by decide)
  · exact cI_ok (by simp -implicitDefEqProofs (disch := decide) only [gL_eq, gL_ne, gI_eq, gI_ne, gB_eq, gB_ne, gJ_eq, gJ_ne, gL_sI, gI_sL, gI_sB, gI_sJ, gL_sB, gL_sJ, gB_sI, gB_sL, gB_sJ, gJ_sI, gJ_sL, gJ_sB]) (h.2.2 j hj).2.1
/-! exchange -/
theorem VS_other {Mc Mm M' : Mem} {j k : Nat} {o d t : Int64} (w : WFm Mm) (v : VS Mc Mm k) (hk : k < 8) (hj : j < 8) (hne : k ≠ j) (hg : gI Mc (11 + 4 * j) = nI (kn Mm j)) (h8j : kn Mm j ≤ 8) (h : KP Mm M' j (if kn Mm j = 8 then 8 else kn Mm j + 1) o d t) : VS (f_X4_keep Mc j o d t) M' k := by
  obtain ⟨v1, v2, v6, v7, vc, vt, vb⟩ := v
  obtain ⟨k1, k2, k3, k4, k5, k6⟩ := h
  have h8 := (WFk w hk).1
  have hk5 := keep5 (M := Mc) (k := j) (o := o) (d := d) (t := t) h8j hg
  have hn : 0 < (if kn Mm j = 8 then 8 else kn Mm j + 1) ∧ (if kn Mm j = 8 then 8 else kn Mm j + 1) ≤ 8 := by split <;> omega
  generalize (if kn Mm j = 8 then 8 else kn Mm j + 1) = n' at hn hk5 k5 k6
  have ek : kn M' k = kn Mm k := by rw [kn, k4 k hne, ← kn]
  have G : ∀ i, i ≠ 11 + 4 * j → i ≠ 12 + 4 * j → gI (f_X4_keep Mc j o d t) i = gI Mc i := fun i h1 h2 => by
    rw [hk5, gI_ne h2, gI_ne h1]; unfold kc3; rw [gI_sJ, gI_sJ, gI_sJ]
  have GL : ∀ i, gL (f_X4_keep Mc j o d t) i = gL Mc i := fun i => by
    rw [hk5, gL_sI, gL_sI]; unfold kc3; rw [gL_sJ, gL_sJ, gL_sJ]
  have GJ : ∀ r, r ≠ 4 + 3 * j → r ≠ 5 + 3 * j → r ≠ 6 + 3 * j → gJ (f_X4_keep Mc j o d t) r = gJ Mc r := fun r a b c => by
    rw [hk5, gJ_sI, gJ_sI]; unfold kc3; rw [gJ_ne c, gJ_ne b, gJ_ne a]
  have bl : ∀ a, a < 3 → ∀ s, s < 8 → gJ M' a (8 * k + s) = gJ Mm a (8 * k + s) := fun a ha s hs => by
    rw [k6 a ha, if_neg (by omega), if_neg (by omega)]
  have eb : 0 < kn Mm k → bx M' k = bx Mm k := fun h0 => by
    have hB := (best_spec hk h8).2.2 h0
    have hB' : BS M' k (bx Mm k) := by
      obtain ⟨⟨b1, b2⟩, b3, b4⟩ := hB
      have at' : ∀ s, 8 * k ≤ s → s < 8 * k + kn Mm k → gJ M' 1 s = gJ Mm 1 s := fun s h1 h2 => by
        have := bl 1 (by omega) (s - 8 * k) (by omega)
        rw [show 8 * k + (s - 8 * k) = s by omega] at this
        exact this
      refine ⟨⟨b1, by rw [ek]; exact b2⟩, fun s h1 h2 => ?_, fun s h1 h2 => ?_⟩
      · rw [ek] at h2; rw [at' _ b1 b2, at' s h1 h2]; exact b3 s h1 h2
      · rw [ek] at h2; rw [at' _ b1 b2, at' s (by omega) h2]; exact b4 s h1 h2
    exact BS_one ((best_spec hk (by rw [ek]; exact h8)).2.2 (by rw [ek]; exact h0)) hB'
  refine ⟨?_, ?_, ?_, ?_, ?_, fun s hs => ?_, fun h0 => ?_⟩
  · rw [G _ (by omega) (by omega), k3 1 (by decide)]; exact v1
  · rw [G _ (by omega) (by omega), k3 2 (by decide)]; exact v2
  · rw [GL, k3 3 (by decide)]; exact v6
  · rw [GL, k3 4 (by decide)]; exact v7
  · rw [G _ (by omega) (by omega), ek]; exact vc
  · rw [ek] at hs ⊢
    rw [GJ _ (by omega) (by omega) (by omega), GJ _ (by omega) (by omega) (by omega), GJ _ (by omega) (by omega) (by omega), bl 0 (by omega) _ (by omega), bl 1 (by omega) _ (by omega), bl 2 (by omega) _ (by omega)]
    exact vt s hs
  · rw [ek] at h0 ⊢
    rw [G _ (by omega) (by omega), eb h0]
    exact vb h0
theorem RR_keep {Mc Mm M' : Mem} {j : Nat} {o d t : Int64} (w : WFm Mm) (h : RR Mc Mm) (hj : j < sn Mm) (hK : KP Mm M' j (if kn Mm j = 8 then 8 else kn Mm j + 1) o d t) : RR (f_X4_keep Mc j o d t) M' := by
  have hs8 := (WFs w).1
  have hj8 : j < 8 := by omega
  have h8j := (WFk w hj8).1
  have vj := h.2.2 j hj
  have hk5 := keep5 (M := Mc) (k := j) (o := o) (d := d) (t := t) h8j vj.2.2.2.2.1
  have G : ∀ i, i < 11 → gI (f_X4_keep Mc j o d t) i = gI Mc i := fun i h1 => by
    rw [hk5, gI_ne (by omega), gI_ne (by omega)]; unfold kc3; rw [gI_sJ, gI_sJ, gI_sJ]
  have GL : ∀ i, gL (f_X4_keep Mc j o d t) i = gL Mc i := fun i => by
    rw [hk5, gL_sI, gL_sI]; unfold kc3; rw [gL_sJ, gL_sJ, gL_sJ]
  obtain ⟨k1, k2, k3, -⟩ := id hK
  refine ⟨?_, RLp_of h.2.1 (G 6 (by omega)) (G 7 (by omega)) (k3 0 (by decide)), fun k hk => ?_⟩
  · obtain ⟨a1, a2, a3, a4, a5, a6, a7, a8, a9⟩ := h.1
    unfold RS
    rw [GL, GL, GL, GL, G 4 (by omega), G 5 (by omega), G 2 (by omega), G 3 (by omega), G 0 (by omega), k2, k2, k2, k2, k1, k1, k1, k1, k1]
    exact ⟨a1, a2, a3, a4, a5, a6, a7, a8, a9⟩
  · have hk' : k < sn Mm := by rw [sn, k1, ← sn] at hk; exact hk
    by_cases e : k = j
    · rw [e]; exact VS_keep vj hj8 h8j hK
    · exact VS_other w (h.2.2 k hk') (by omega) hj8 e vj.2.2.2.2.1 h8j hK
theorem take_e {Mc Mm : Mem} {j : Nat} {p1 p2 p3 : Int32} (h : RR Mc Mm) (hj : j < sn Mm) (w1 : 0 ≤ p1.toInt) (w2 : 0 ≤ p2.toInt) (w3 : 0 ≤ p3.toInt) :
    RR (f_X5_elapse (f_X5_elapse (f_X5_elapse Mc p1) p2) p3) (x3M Mm p1 p2 p3) ∧ f_X5_takeSample Mc j p1 p2 p3 = (xdl Mm j p1 p2 p3, f_X4_keep (f_X5_elapse (f_X5_elapse (f_X5_elapse Mc p1) p2) p3) j (xof Mm j p1 p2 p3) (xdl Mm j p1 p2 p3) (f_X6_reading (x3M Mm p1 p2 p3))) := by
  have h1 : RR (f_X5_elapse Mc p1) (x1M Mm p1) := RR_go w1 (RR_0 h)
  have h2 : RR (f_X5_elapse (f_X5_elapse Mc p1) p2) (x2M Mm p1 p2) := RR_go w2 h1
  have h3 : RR (f_X5_elapse (f_X5_elapse (f_X5_elapse Mc p1) p2) p3) (x3M Mm p1 p2 p3) := RR_go w3 h2
  refine ⟨h3, ?_⟩
  have s1 : j < sn (x1M Mm p1) := by rw [x1M, sn, go_I, gI_ne (by decide), ← sn]; exact hj
  have s2 : j < sn (x2M Mm p1 p2) := by rw [x2M, x1M, sn, go_I, go_I, gI_ne (by decide), ← sn]; exact hj
  have e1 : f_X4_readingAt (f_X5_elapse Mc p1) j (gL (f_X5_elapse Mc p1) 0) = xt2 Mm j p1 := by
    rw [f_X4_readingAt, h1.1.1, (h1.2.2 j s1).2.1, xt2]
  have e2 : f_X4_readingAt (f_X5_elapse (f_X5_elapse Mc p1) p2) j (gL (f_X5_elapse (f_X5_elapse Mc p1) p2) 0) = xt3 Mm j p1 p2 := by
    rw [f_X4_readingAt, h2.1.1, (h2.2.2 j s2).2.1, xt3]
  have ed : f_X6_reading (x3M Mm p1 p2 p3) - f_X6_reading Mm - (xt3 Mm j p1 p2 - xt2 Mm j p1) = xdr Mm j p1 p2 p3 := by rw [xdr]
  unfold xdl xof
  simp -implicitDefEqProofs (disch := decide) only [f_X5_takeSample, bnd_e, bnd2_e, e1, e2, RS_rd h.1, RS_rd h3.1, fl_two, ed]
theorem ex_cases {Mc Mm : Mem} (w : WFm Mm) (h : RR Mc Mm) (x p1 p2 p3 : Int32) :
    (f_X5_exchange Mc x p1 p2 p3 = (3, 0, Mc) ∧ f_X6_exchange Mm x p1 p2 p3 = (0, sI Mm 0 1)) ∨ (f_X5_exchange Mc x p1 p2 p3 = (1, 0, Mc) ∧ f_X6_exchange Mm x p1 p2 p3 = (0, sI Mm 0 2)) ∨ (f_X5_exchange Mc x p1 p2 p3 = (2, 0, Mc) ∧ f_X6_exchange Mm x p1 p2 p3 = (0, sI Mm 0 3)) ∨
    ∃ j Mc' Mm' v, f_X5_exchange Mc x p1 p2 p3 = (0, v, Mc') ∧ f_X6_exchange Mm x p1 p2 p3 = (v, Mm') ∧ RR Mc' Mm' ∧ gI Mm' 0 = 0 ∧ j < sn Mm := by
  rcases srv_eq w h.1.2.2.2.2.2.2.2.2 x with ⟨h1, h2⟩ | ⟨j, hj, hj8, rfl, h1, h2⟩
  · exact Or.inl (no_12 h1 h2)
  · right
    by_cases hx : okX p1 p2 p3
    · right
      by_cases hm : (1000000000000 : Int64) < gL Mm 0 + p1.toInt64 + p2.toInt64 + p3.toInt64
      · exact Or.inl ⟨exc_3 h1 hx (by rw [h.1.1]; exact hm), exs_3 h2 hx hm⟩
      · right
        obtain ⟨w1, w2, w3⟩ := okX_i hx
        obtain ⟨h3, et⟩ := take_e (j := j) h hj w1.1 w2.1 w3.1
        have hk3 : kn (x3M Mm p1 p2 p3) j ≤ 8 := (WFk (x3_w w) hj8).1
        have s3 : j < sn (x3M Mm p1 p2 p3) := by rw [sn, x3_I (by decide), ← sn]; exact hj
        have hK := keep_spec (M := x3M Mm p1 p2 p3) (j := j) (p1 := xof Mm j p1 p2 p3) (p2 := xdl Mm j p1 p2 p3) (p3 := f_X6_reading (x3M Mm p1 p2 p3)) hj8 hk3
        refine ⟨j, _, _, xdl Mm j p1 p2 p3, ?_, exs_4 hj8 h2 hx hm, RR_keep (x3_w w) h3 s3 hK, ?_, hj⟩
        · rw [exc_4 h1 hx (by rw [h.1.1]; exact hm), et]
        · rw [hK.1 0, x3_0]
    · exact Or.inl ⟨exc_2 h1 hx, exs_2 h2 hx⟩
theorem r_12 {Mc Mm : Mem} {x p1 p2 p3 : Int32} (w : WFm Mm) (h : RR Mc Mm) : RR (f_X5_exchange Mc x p1 p2 p3).2.2 (f_X6_exchange Mm x p1 p2 p3).2 := by
  rcases ex_cases w h x p1 p2 p3 with ⟨e1, e2⟩ | ⟨e1, e2⟩ | ⟨e1, e2⟩ | ⟨j, Mc', Mm', v, e1, e2, hR, -, -⟩ <;> rw [e1, e2]
  · exact RR_0 h
  · exact RR_0 h
  · exact RR_0 h
  · exact hR
theorem kp_12 {Mc Mm : Mem} {x p1 p2 p3 : Int32} (w : WFm Mm) (h : RR Mc Mm) : cmpN (fun n => if n = 3 then 1 else if n = 1 then 2 else if n = 2 then 3 else 0) (f_X5_exchange Mc x p1 p2 p3) (f_X6_exchange Mm x p1 p2 p3) := by
  rcases ex_cases w h x p1 p2 p3 with ⟨e1, e2⟩ | ⟨e1, e2⟩ | ⟨e1, e2⟩ | ⟨j, Mc', Mm', v, e1, e2, -, h0, -⟩ <;> rw [e1, e2]
  · exact cN_thr (by decide) (by decide)
  · exact cN_thr (by decide) (by decide)
  · exact cN_thr (by decide) (by decide)
  · exact cN_ok h0 rfl
/-! what a server answers -/
theorem smp6 {M : Mem} {j : Nat} (hj : j < 8) (h : ¬ f_X6_isServer M (nI j) = 0) : f_X6_samples M (nI j) = (nI (kn M j), sI M 0 0) := by
  have e : kn (sI M 0 0) j = kn M j := by rw [kn, kn, gB_sI]
  simp -implicitDefEqProofs (disch := decide) only [f_X6_samples, bnd_e, bnd2_e, ref_e, if_neg h, nI_clamp (show j < 2 ^ 31 by omega), e]
theorem kp_14 {Mc Mm : Mem} {x : Int32} (w : WFm Mm) (h : RR Mc Mm) : cmpN (fun n => if n = 3 then 1 else 0) (toJ (f_X5_samples Mc x)) (toM (f_X6_samples Mm x)) := by
  rcases srv_eq w h.1.2.2.2.2.2.2.2.2 x with ⟨h1, h2⟩ | ⟨j, hj, hj8, rfl, h1, h2⟩
  · obtain ⟨e1, e2⟩ := no_14 h1 h2
    rw [e1, e2]; exact cI_thr (by decide) (by decide)
  · have e5 : f_X5_samples Mc (nI j) = (0, gI Mc (11 + 4 * j), Mc) := by rw [f_X5_samples, kn_yes h1, thn_yes, bnd_e, f_X4_kept]
    rw [e5, smp6 hj8 h2]
    exact cI_ok (by simp -implicitDefEqProofs (disch := decide) only [gL_eq, gL_ne, gI_eq, gI_ne, gB_eq, gB_ne, gJ_eq, gJ_ne, gL_sI, gI_sL, gI_sB, gI_sJ, gL_sB, gL_sJ, gB_sI, gB_sL, gB_sJ, gJ_sI, gJ_sL, gJ_sB]) (h.2.2 j hj).2.2.2.2.1
/-- a server that is there and has a sample, or the refusal that both give -/
theorem heard {Mc Mm : Mem} {x : Int32} (w : WFm Mm) (h : RR Mc Mm) : (f_X5_heardServer Mc x = (3, 0, Mc) ∧ f_X6_noSample Mm x = (1, sI Mm 0 1)) ∨ (f_X5_heardServer Mc x = (2, 0, Mc) ∧ f_X6_noSample Mm x = (1, sI Mm 0 2)) ∨
    ∃ j, j < sn Mm ∧ j < 8 ∧ x = nI j ∧ 0 < kn Mm j ∧ f_X5_heardServer Mc x = (0, j, Mc) ∧ f_X6_noSample Mm x = (0, sI Mm 0 0) := by
  rcases srv_eq w h.1.2.2.2.2.2.2.2.2 x with ⟨h1, h2⟩ | ⟨j, hj, hj8, rfl, h1, h2⟩
  · exact Or.inl ⟨hr_no h1, ns_no h2⟩
  · right
    have h8 := (WFk w hj8).1
    have hc := (h.2.2 j hj).2.2.2.2.1
    have z : nI (kn Mm j) = 0 ↔ kn Mm j = 0 := nI_eq (b := 0) (by omega) (by decide)
    have e5 : f_X5_heardServer Mc (nI j) = if nI (kn Mm j) = 0 then (2, 0, Mc) else (0, j, Mc) := by
      rw [f_X5_heardServer, kn_yes h1, thn_yes, bnd_e, f_X4_kept, hc]
    by_cases c : kn Mm j = 0
    · left
      refine ⟨by rw [e5, if_pos (z.mpr c)], ?_⟩
      simp -implicitDefEqProofs (disch := decide) only [f_X6_noSample, bnd_e, bnd2_e, ref_e, if_neg h2, nI_clamp (show j < 2 ^ 31 by omega), if_pos (z.mpr c)]
    · right
      refine ⟨j, hj, hj8, rfl, by omega, by rw [e5, if_neg (fun q => c (z.mp q))], ?_⟩
      simp -implicitDefEqProofs (disch := decide) only [f_X6_noSample, bnd_e, bnd2_e, ref_e, if_neg h2, nI_clamp (show j < 2 ^ 31 by omega), if_neg (show ¬ nI (kn Mm j) = 0 from fun q => c (z.mp q))]
theorem kp_15 {Mc Mm : Mem} {x : Int32} (w : WFm Mm) (h : RR Mc Mm) : cmpN (fun n => if n = 3 then 1 else if n = 2 then 2 else 0) (f_X5_offset Mc x) (f_X6_offset Mm x) := by
  rcases heard (x := x) w h with ⟨e1, e2⟩ | ⟨e1, e2⟩ | ⟨j, hj, hj8, rfl, h0, e1, e2⟩
  · have g1 : f_X5_offset Mc x = (3, 0, Mc) := by rw [f_X5_offset, e1, thn_no (by decide)]
    have g2 : f_X6_offset Mm x = (0, sI Mm 0 1) := by simp -implicitDefEqProofs (disch := decide) only [f_X6_offset, bnd_e, bnd2_e, e2]; rw [if_neg (by decide)]
    rw [g1, g2]; exact cN_thr (by decide) (by decide)
  · have g1 : f_X5_offset Mc x = (2, 0, Mc) := by rw [f_X5_offset, e1, thn_no (by decide)]
    have g2 : f_X6_offset Mm x = (0, sI Mm 0 2) := by simp -implicitDefEqProofs (disch := decide) only [f_X6_offset, bnd_e, bnd2_e, e2]; rw [if_neg (by decide)]
    rw [g1, g2]; exact cN_thr (by decide) (by decide)
  · have g1 : f_X5_offset Mc (nI j) = (0, f_X4_bestOffset Mc j, Mc) := by rw [f_X5_offset, e1, thn_yes, bnd_e]
    have g2 : f_X6_offset Mm (nI j) = (gJ Mm 0 (bx Mm j), sI Mm 0 0) := by
      have eb : (f_X6_best (sI Mm 0 0) j).toNatClampNeg = bx Mm j := by rw [← bx_eq (EQ_0 (v := 0)) j, bx]
      simp -implicitDefEqProofs (disch := decide) only [f_X6_offset, bnd_e, bnd2_e, e2, if_true, nI_clamp (show j < 2 ^ 31 by omega), eb, gJ_sI]
    rw [g1, g2, bo_eq (h.2.2 j hj) hj8 (WFk w hj8).1 h0]
    exact cN_ok (by simp -implicitDefEqProofs (disch := decide) only [gL_eq, gL_ne, gI_eq, gI_ne, gB_eq, gB_ne, gJ_eq, gJ_ne, gL_sI, gI_sL, gI_sB, gI_sJ, gL_sB, gL_sJ, gB_sI, gB_sL, gB_sJ, gJ_sI, gJ_sL, gJ_sB]) rfl
theorem kp_16 {Mc Mm : Mem} {x : Int32} (w : WFm Mm) (h : RR Mc Mm) : cmpN (fun n => if n = 3 then 1 else if n = 2 then 2 else 0) (f_X5_delay Mc x) (f_X6_delay Mm x) := by
  rcases heard (x := x) w h with ⟨e1, e2⟩ | ⟨e1, e2⟩ | ⟨j, hj, hj8, rfl, h0, e1, e2⟩
  · have g1 : f_X5_delay Mc x = (3, 0, Mc) := by rw [f_X5_delay, e1, thn_no (by decide)]
    have g2 : f_X6_delay Mm x = (0, sI Mm 0 1) := by simp -implicitDefEqProofs (disch := decide) only [f_X6_delay, bnd_e, bnd2_e, e2]; rw [if_neg (by decide)]
    rw [g1, g2]; exact cN_thr (by decide) (by decide)
  · have g1 : f_X5_delay Mc x = (2, 0, Mc) := by rw [f_X5_delay, e1, thn_no (by decide)]
    have g2 : f_X6_delay Mm x = (0, sI Mm 0 2) := by simp -implicitDefEqProofs (disch := decide) only [f_X6_delay, bnd_e, bnd2_e, e2]; rw [if_neg (by decide)]
    rw [g1, g2]; exact cN_thr (by decide) (by decide)
  · have g1 : f_X5_delay Mc (nI j) = (0, f_X4_bestDelay Mc j, Mc) := by rw [f_X5_delay, e1, thn_yes, bnd_e]
    have g2 : f_X6_delay Mm (nI j) = (gJ Mm 1 (bx Mm j), sI Mm 0 0) := by
      have eb : (f_X6_best (sI Mm 0 0) j).toNatClampNeg = bx Mm j := by rw [← bx_eq (EQ_0 (v := 0)) j, bx]
      simp -implicitDefEqProofs (disch := decide) only [f_X6_delay, bnd_e, bnd2_e, e2, if_true, nI_clamp (show j < 2 ^ 31 by omega), eb, gJ_sI]
    rw [g1, g2, bd_eq (h.2.2 j hj) hj8 (WFk w hj8).1 h0]
    exact cN_ok (by simp -implicitDefEqProofs (disch := decide) only [gL_eq, gL_ne, gI_eq, gI_ne, gB_eq, gB_ne, gJ_eq, gJ_ne, gL_sI, gI_sL, gI_sB, gI_sJ, gL_sB, gL_sJ, gB_sI, gB_sL, gB_sJ, gJ_sI, gJ_sL, gJ_sB]) rfl
theorem kp_17 {Mc Mm : Mem} {x : Int32} (w : WFm Mm) (h : RR Mc Mm) : cmpN (fun n => if n = 3 then 1 else if n = 2 then 2 else 0) (f_X5_jitter Mc x) (f_X6_jitter Mm x) := by
  rcases heard (x := x) w h with ⟨e1, e2⟩ | ⟨e1, e2⟩ | ⟨j, hj, hj8, rfl, h0, e1, e2⟩
  · have g1 : f_X5_jitter Mc x = (3, 0, Mc) := by rw [f_X5_jitter, e1, thn_no (by decide)]
    have g2 : f_X6_jitter Mm x = (0, sI Mm 0 1) := by simp -implicitDefEqProofs (disch := decide) only [f_X6_jitter, bnd_e, bnd2_e, e2]; rw [if_neg (by decide)]
    rw [g1, g2]; exact cN_thr (by decide) (by decide)
  · have g1 : f_X5_jitter Mc x = (2, 0, Mc) := by rw [f_X5_jitter, e1, thn_no (by decide)]
    have g2 : f_X6_jitter Mm x = (0, sI Mm 0 2) := by simp -implicitDefEqProofs (disch := decide) only [f_X6_jitter, bnd_e, bnd2_e, e2]; rw [if_neg (by decide)]
    rw [g1, g2]; exact cN_thr (by decide) (by decide)
  · have g1 : f_X5_jitter Mc (nI j) = (0, f_X4_offsetJitter Mc j, Mc) := by rw [f_X5_jitter, e1, thn_yes, bnd_e]
    have g2 : f_X6_jitter Mm (nI j) = (f_X6_jitterOf Mm j, sI Mm 0 0) := by
      simp -implicitDefEqProofs (disch := decide) only [f_X6_jitter, bnd_e, bnd2_e, e2, if_true, nI_clamp (show j < 2 ^ 31 by omega), jit_eq (EQ_0 (M := Mm) (v := 0))]
    rw [g1, g2, ji_eq (h.2.2 j hj) hj8 (WFk w hj8).1 h0]
    exact cN_ok (by simp -implicitDefEqProofs (disch := decide) only [gL_eq, gL_ne, gI_eq, gI_ne, gB_eq, gB_ne, gJ_eq, gJ_ne, gL_sI, gI_sL, gI_sB, gI_sJ, gL_sB, gL_sJ, gB_sI, gB_sL, gB_sJ, gJ_sI, gJ_sL, gJ_sB]) rfl
theorem kp_18 {Mc Mm : Mem} {x : Int32} (n : NI Mm) (w : WFm Mm) (h : RR Mc Mm) : cmpN (fun n => if n = 3 then 1 else if n = 2 then 2 else 0) (f_X5_distance Mc x) (f_X6_distance Mm x) := by
  rcases heard (x := x) w h with ⟨e1, e2⟩ | ⟨e1, e2⟩ | ⟨j, hj, hj8, rfl, h0, e1, e2⟩
  · have g1 : f_X5_distance Mc x = (3, 0, Mc) := by rw [f_X5_distance, e1, thn_no (by decide)]
    have g2 : f_X6_distance Mm x = (0, sI Mm 0 1) := by simp -implicitDefEqProofs (disch := decide) only [f_X6_distance, bnd_e, bnd2_e, e2]; rw [if_neg (by decide)]
    rw [g1, g2]; exact cN_thr (by decide) (by decide)
  · have g1 : f_X5_distance Mc x = (2, 0, Mc) := by rw [f_X5_distance, e1, thn_no (by decide)]
    have g2 : f_X6_distance Mm x = (0, sI Mm 0 2) := by simp -implicitDefEqProofs (disch := decide) only [f_X6_distance, bnd_e, bnd2_e, e2]; rw [if_neg (by decide)]
    rw [g1, g2]; exact cN_thr (by decide) (by decide)
  · have g1 : f_X5_distance Mc (nI j) = (0, f_X4_distanceAt Mc j (f_X1_reading Mc), Mc) := by rw [f_X5_distance, e1, thn_yes, bnd_e, bnd_e]
    have g2 : f_X6_distance Mm (nI j) = (f_X6_distanceOf Mm j, sI Mm 0 0) := by
      simp -implicitDefEqProofs (disch := decide) only [f_X6_distance, bnd_e, bnd2_e, e2, if_true, nI_clamp (show j < 2 ^ 31 by omega), dist_eq (EQ_0 (M := Mm) (v := 0))]
    rw [g1, g2, RS_rd h.1, di_eq (h.2.2 j hj) hj8 (WFk w hj8).1 h0 (n.2 j hj).2.1.1]
    exact cN_ok (by simp -implicitDefEqProofs (disch := decide) only [gL_eq, gL_ne, gI_eq, gI_ne, gB_eq, gB_ne, gJ_eq, gJ_ne, gL_sI, gI_sL, gI_sB, gI_sJ, gL_sB, gL_sJ, gB_sI, gB_sL, gB_sJ, gJ_sI, gJ_sL, gJ_sB]) rfl
