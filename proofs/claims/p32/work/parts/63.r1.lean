/-! a small relation: true time, number of servers, drift, errors -/
def R1 (Mc Mm : Mem) : Prop := gL Mc 0 = gL Mm 0 ∧ gI Mc 0 = gI Mm 6 ∧ gI Mc 4 = gI Mm 1 ∧ ∀ k, k < sn Mm → gI Mc (14 + 4 * k) = gB Mm 2 k
def E1 (M M' : Mem) : Prop := gL M' 0 = gL M 0 ∧ gI M' 0 = gI M 0 ∧ gI M' 4 = gI M 4 ∧ ∀ k, gI M' (14 + 4 * k) = gI M (14 + 4 * k)
theorem E1.rf {M : Mem} : E1 M M := ⟨rfl, rfl, rfl, fun _ => rfl⟩
theorem E1.tr {A B C : Mem} (h : E1 A B) (g : E1 B C) : E1 A C := ⟨g.1.trans h.1, g.2.1.trans h.2.1, g.2.2.1.trans h.2.2.1, fun k => (g.2.2.2 k).trans (h.2.2.2 k)⟩
theorem EC.e1 {M M' : Mem} (h : EC M M') : E1 M M' := ⟨h.2.1 0 (by decide) (by decide), h.1 0 (by decide) (by decide) (by decide), h.1 4 (by decide) (by decide) (by decide), fun k => h.1 _ (by omega) (by omega) (by omega)⟩
theorem R1_c {Mc Mc' Mm : Mem} (h : R1 Mc Mm) (g : E1 Mc Mc') : R1 Mc' Mm := ⟨g.1.trans h.1, g.2.1.trans h.2.1, g.2.2.1.trans h.2.2.1, fun k hk => (g.2.2.2 k).trans (h.2.2.2 k hk)⟩
theorem R1_m {Mc Mm Mm' : Mem} (h : R1 Mc Mm) (g : EQ Mm Mm') : R1 Mc Mm' := ⟨h.1.trans (g.2.1 0 (by decide) (by decide)).symm, h.2.1.trans (g.1 6 (by decide) (by decide) (by decide)).symm, h.2.2.1.trans (g.1 1 (by decide) (by decide) (by decide)).symm, fun k hk => by rw [EQ_sn g] at hk; rw [h.2.2.2 k hk, g.2.2.1 2 (by decide) (by decide)]⟩
theorem E1_sI {M : Mem} {i : Nat} {v : Int32} (h : i ≠ 0 ∧ i ≠ 4 ∧ ∀ k, 14 + 4 * k ≠ i) : E1 M (sI M i v) := ⟨gL_sI, gI_ne (Ne.symm h.1), gI_ne (Ne.symm h.2.1), fun k => gI_ne (h.2.2 k)⟩
theorem E1_sL {M : Mem} {i : Nat} {v : Int64} (h : i ≠ 0) : E1 M (sL M i v) := ⟨gL_ne (Ne.symm h), gI_sL, gI_sL, fun _ => gI_sL⟩
theorem E1_sJ {M : Mem} {r : Nat} {f : Nat → Int64} : E1 M (sJ M r f) := ⟨gL_sJ, gI_sJ, gI_sJ, fun _ => gI_sJ⟩
theorem R1_go {Mc Mm : Mem} {t : Int32} (h0 : 0 ≤ t.toInt) (h : R1 Mc Mm) : R1 (f_X5_elapse Mc t) (f_X6_goOn Mm t) := by
  obtain ⟨a1, a2, a3, a4⟩ := h
  have hs : sn (f_X6_goOn Mm t) = sn Mm := by rw [go6, sn_sL, sn_sL, sn_sL]
  refine ⟨?_, ?_, ?_, fun k hk => ?_⟩
  · rw [el5 h0, go6]; simp -implicitDefEqProofs (disch := decide) only [gL_eq, gL_ne, gI_eq, gI_ne, gB_eq, gB_ne, gJ_eq, gJ_ne, gL_sI, gI_sL, gI_sB, gI_sJ, gL_sB, gL_sJ, gB_sI, gB_sL, gB_sJ, gJ_sI, gJ_sL, gJ_sB, a1]
  · rw [el5 h0, go6]; simp -implicitDefEqProofs (disch := decide) only [gL_eq, gL_ne, gI_eq, gI_ne, gB_eq, gB_ne, gJ_eq, gJ_ne, gL_sI, gI_sL, gI_sB, gI_sJ, gL_sB, gL_sJ, gB_sI, gB_sL, gB_sJ, gJ_sI, gJ_sL, gJ_sB, a2]
  · rw [el5 h0, go6]; simp -implicitDefEqProofs (disch := decide) only [gL_eq, gL_ne, gI_eq, gI_ne, gB_eq, gB_ne, gJ_eq, gJ_ne, gL_sI, gI_sL, gI_sB, gI_sJ, gL_sB, gL_sJ, gB_sI, gB_sL, gB_sJ, gJ_sI, gJ_sL, gJ_sB, a3]
  · rw [hs] at hk
    rw [el5 h0, go6]; simp -implicitDefEqProofs (disch := decide) only [gL_eq, gL_ne, gI_eq, gI_ne, gB_eq, gB_ne, gJ_eq, gJ_ne, gL_sI, gI_sL, gI_sB, gI_sJ, gL_sB, gL_sJ, gB_sI, gB_sL, gB_sJ, gJ_sI, gJ_sL, gJ_sB]; exact a4 k hk
theorem R1_0 {Mc Mm : Mem} {v : Int32} (h : R1 Mc Mm) : R1 Mc (sI Mm 0 v) := R1_m h EQ_0
/-- restart needs no relation but at a refusal -/
theorem r1_0 {Mc Mm : Mem} {x : Int32} (h : R1 Mc Mm) : R1 (f_X5_restart Mc x).2 (f_X6_restart Mm x) := by
  obtain ⟨f, -, e⟩ := rst6 (M := Mm) (x := x)
  rw [rst5, e]
  by_cases h1 : f_X5_isWithin x (-1000000000) 1000000000 = 0
  · rw [if_pos h1, if_pos h1]; exact R1_0 h
  · rw [if_neg h1, if_neg h1]
    dsimp only
    rw [beg5]
    refine ⟨by simp -implicitDefEqProofs (disch := decide) only [gL_eq, gL_ne, gI_eq, gI_ne, gB_eq, gB_ne, gJ_eq, gJ_ne, gL_sI, gI_sL, gI_sB, gI_sJ, gL_sB, gL_sJ, gB_sI, gB_sL, gB_sJ, gJ_sI, gJ_sL, gJ_sB], by simp -implicitDefEqProofs (disch := decide) only [gL_eq, gL_ne, gI_eq, gI_ne, gB_eq, gB_ne, gJ_eq, gJ_ne, gL_sI, gI_sL, gI_sB, gI_sJ, gL_sB, gL_sJ, gB_sI, gB_sL, gB_sJ, gJ_sI, gJ_sL, gJ_sB], by simp -implicitDefEqProofs (disch := decide) only [gL_eq, gL_ne, gI_eq, gI_ne, gB_eq, gB_ne, gJ_eq, gJ_ne, gL_sI, gI_sL, gI_sB, gI_sJ, gL_sB, gL_sJ, gB_sI, gB_sL, gB_sJ, gJ_sI, gJ_sL, gJ_sB], fun k hk => ?_⟩
    rw [sn_sB, sn, gI_eq] at hk
    exact absurd hk (by rw [show (0 : Int32).toNatClampNeg = 0 by decide]; omega)
theorem r1_1 {Mc Mm : Mem} {x : Int32} (h : R1 Mc Mm) : R1 (f_X5_pass Mc x).2.2 (f_X6_pass Mm x).2 := by
  rw [pass5, pass6]
  by_cases h1 : f_X5_isWithin x 1 1000000000 = 0
  · rw [if_pos h1, if_pos h1]; exact R1_0 h
  · rw [if_neg h1, if_neg h1, h.1]
    by_cases h2 : (1000000000000 : Int64) < gL Mm 0 + x.toInt64
    · rw [if_pos h2, if_pos h2]; exact R1_0 h
    · rw [if_neg h2, if_neg h2]
      have hw := within_1 h1
      have h0 : 0 ≤ x.toInt := by have : (1 : Int32).toInt = 1 := by decide
                                  omega
      exact R1_go h0 (R1_0 h)
theorem r1_2 {Mc Mm : Mem} {x : Int32} (h : R1 Mc Mm) : R1 (f_X5_setDrift Mc x).2.2 (f_X6_setDrift Mm x).2 := by
  rw [drift5, drift6]
  by_cases h1 : f_X5_isWithin x (-300) 300 = 0
  · rw [if_pos h1, if_pos h1]; exact R1_0 h
  · rw [if_neg h1, if_neg h1]
    obtain ⟨a1, a2, a3, a4⟩ := h
    dsimp only
    refine ⟨by simp -implicitDefEqProofs (disch := decide) only [gL_eq, gL_ne, gI_eq, gI_ne, gB_eq, gB_ne, gJ_eq, gJ_ne, gL_sI, gI_sL, gI_sB, gI_sJ, gL_sB, gL_sJ, gB_sI, gB_sL, gB_sJ, gJ_sI, gJ_sL, gJ_sB]; exact a1, by simp -implicitDefEqProofs (disch := decide) only [gL_eq, gL_ne, gI_eq, gI_ne, gB_eq, gB_ne, gJ_eq, gJ_ne, gL_sI, gI_sL, gI_sB, gI_sJ, gL_sB, gL_sJ, gB_sI, gB_sL, gB_sJ, gJ_sI, gJ_sL, gJ_sB]; exact a2, by simp -implicitDefEqProofs (disch := decide) only [gL_eq, gL_ne, gI_eq, gI_ne, gB_eq, gB_ne, gJ_eq, gJ_ne, gL_sI, gI_sL, gI_sB, gI_sJ, gL_sB, gL_sJ, gB_sI, gB_sL, gB_sJ, gJ_sI, gJ_sL, gJ_sB], fun k hk => ?_⟩
    rw [sn_sI0 (by decide), sn_sI0 (by decide)] at hk
    rw [gI_ne (by omega), gB_sI, gB_sI]
    exact a4 k hk
theorem r1_8 {Mc Mm : Mem} {x b : Int32} (h : R1 Mc Mm) : R1 (f_X5_announceLeap Mc x b).2.2 (f_X6_announceLeap Mm x b).2 := by
  have hc : E1 Mc (f_X5_announceLeap Mc x b).2.2 := by
    rw [ann5]
    repeat' split
    all_goals first | exact E1.rf | exact E1_sI ⟨by decide, by decide, fun k => by omega⟩
  have hm : R1 Mc (f_X6_announceLeap Mm x b).2 := by
    rw [ann6]
    by_cases h1 : f_X5_isWithin x 0 20 = 0
    · rw [if_pos h1]; exact R1_0 h
    · rw [if_neg h1]
      by_cases h2 : gB Mm 0 x.toNatClampNeg = 0
      · rw [if_pos h2]
        by_cases h3 : f_X6_reading Mm < f_X6_smearFrom (nI x.toNatClampNeg)
        · rw [if_pos h3]
          obtain ⟨a1, a2, a3, a4⟩ := h
          dsimp only
          refine ⟨by simp -implicitDefEqProofs (disch := decide) only [gL_eq, gL_ne, gI_eq, gI_ne, gB_eq, gB_ne, gJ_eq, gJ_ne, gL_sI, gI_sL, gI_sB, gI_sJ, gL_sB, gL_sJ, gB_sI, gB_sL, gB_sJ, gJ_sI, gJ_sL, gJ_sB]; exact a1, by simp -implicitDefEqProofs (disch := decide) only [gL_eq, gL_ne, gI_eq, gI_ne, gB_eq, gB_ne, gJ_eq, gJ_ne, gL_sI, gI_sL, gI_sB, gI_sJ, gL_sB, gL_sJ, gB_sI, gB_sL, gB_sJ, gJ_sI, gJ_sL, gJ_sB]; exact a2, by simp -implicitDefEqProofs (disch := decide) only [gL_eq, gL_ne, gI_eq, gI_ne, gB_eq, gB_ne, gJ_eq, gJ_ne, gL_sI, gI_sL, gI_sB, gI_sJ, gL_sB, gL_sJ, gB_sI, gB_sL, gB_sJ, gJ_sI, gJ_sL, gJ_sB]; exact a3, fun k hk => ?_⟩
          rw [sn_sB, sn_sI0 (by decide)] at hk
          rw [gB_ne (by decide), gB_sI]
          exact a4 k hk
        · rw [if_neg h3]; exact R1_0 h
      · rw [if_neg h2]; exact R1_0 h
  exact R1_c hm hc
theorem r1_10 {Mc Mm : Mem} {p0 p1 p2 p3 : Int32} (w : WFm Mm) (h : R1 Mc Mm) : R1 (f_X5_addServer Mc p0 p1 p2 p3).2.2 (f_X6_addServer Mm p0 p1 p2 p3).2 := by
  rcases add_cases w h.2.1 p0 p1 p2 p3 with ⟨e1, e2⟩ | ⟨e1, e2⟩ | ⟨-, hn, e1, e2⟩ <;> rw [e1, e2]
  · exact R1_0 h
  · exact R1_0 h
  · obtain ⟨a1, a2, a3, a4⟩ := h
    dsimp only
    refine ⟨by unfold set5 set6; simp -implicitDefEqProofs (disch := omega) only [gL_eq, gL_ne, gI_eq, gI_ne, gB_eq, gB_ne, gJ_eq, gJ_ne, gL_sI, gI_sL, gI_sB, gI_sJ, gL_sB, gL_sJ, gB_sI, gB_sL, gB_sJ, gJ_sI, gJ_sL, gJ_sB]; exact a1, ?_, ?_, fun k hk => ?_⟩
    · rw [gI_eq]; unfold set6; rw [gI_eq]
    · unfold set5 set6; simp -implicitDefEqProofs (disch := omega) only [gL_eq, gL_ne, gI_eq, gI_ne, gB_eq, gB_ne, gJ_eq, gJ_ne, gL_sI, gI_sL, gI_sB, gI_sJ, gL_sB, gL_sJ, gB_sI, gB_sL, gB_sJ, gJ_sI, gJ_sL, gJ_sB]; exact a3
    · rw [sn_set (by omega)] at hk
      unfold set5 set6
      by_cases e : k = sn Mm
      · subst e
        simp -implicitDefEqProofs (disch := omega) only [gL_eq, gL_ne, gI_eq, gI_ne, gB_eq, gB_ne, gJ_eq, gJ_ne, gL_sI, gI_sL, gI_sB, gI_sJ, gL_sB, gL_sJ, gB_sI, gB_sL, gB_sJ, gJ_sI, gJ_sL, gJ_sB, upd_eq]
      · simp -implicitDefEqProofs (disch := omega) only [gL_eq, gL_ne, gI_eq, gI_ne, gB_eq, gB_ne, gJ_eq, gJ_ne, gL_sI, gI_sL, gI_sB, gI_sJ, gL_sB, gL_sJ, gB_sI, gB_sL, gB_sJ, gJ_sI, gJ_sL, gJ_sB, upd_ne e]
        exact a4 k (by omega)
/-! setError -/
theorem err5_no {M : Mem} {x y : Int32} (h : f_X5_serverOrNull M x = none) : f_X5_setError M x y = (3, 0, M) := by rw [f_X5_setError, kn_no h, thn_no (by decide)]
theorem thn_yes {α β : Type} {M : Mem} {a : α} {f : Nat → Mem → β} {g : α → Mem → β} : thn (0, a, M) f g = g a M := by rw [thn, if_pos rfl]
theorem kn_yes {M : Mem} {x : Int32} {j : Nat} (h : f_X5_serverOrNull M x = some j) : f_X5_knownServer M x = (0, j, M) := by rw [known_e, opt_some h]
theorem err5_yes {M : Mem} {x y : Int32} {j : Nat} (h : f_X5_serverOrNull M x = some j) : f_X5_setError M x y = if f_X5_isWithin y (-1000000) 1000000 = 0 then (1, 0, M) else (0, gI M (14 + 4 * j), sI M (14 + 4 * j) y) := by
  rw [f_X5_setError, kn_yes h, thn_yes]
  simp -implicitDefEqProofs (disch := decide) only [bnd_e, bnd2_e, f_X5_isServerError, f_X4_changeError]
theorem er_cases {Mc Mm : Mem} (w : WFm Mm) (hg : gI Mc 0 = gI Mm 6) (x y : Int32) :
    (f_X5_setError Mc x y = (3, 0, Mc) ∧ f_X6_setError Mm x y = (0, sI Mm 0 1)) ∨ (f_X5_setError Mc x y = (1, 0, Mc) ∧ f_X6_setError Mm x y = (0, sI Mm 0 2)) ∨
    ∃ j, j < sn Mm ∧ j < 8 ∧ f_X5_setError Mc x y = (0, gI Mc (14 + 4 * j), sI Mc (14 + 4 * j) y) ∧ f_X6_setError Mm x y = (gB Mm 2 j, sB (sI Mm 0 0) 2 (upd (gB Mm 2) j y)) := by
  rcases srv_eq w hg x with ⟨h1, h2⟩ | ⟨j, hj, hj8, rfl, h1, h2⟩
  · exact Or.inl ⟨err5_no h1, by rw [err6, if_pos h2]⟩
  · right
    by_cases c : f_X5_isWithin y (-1000000) 1000000 = 0
    · exact Or.inl ⟨by rw [err5_yes h1, if_pos c], by rw [err6, if_neg h2, if_pos c]⟩
    · exact Or.inr ⟨j, hj, hj8, by rw [err5_yes h1, if_neg c], by rw [err6, if_neg h2, if_neg c, nI_clamp (by omega)]⟩
theorem r1_11 {Mc Mm : Mem} {x y : Int32} (w : WFm Mm) (h : R1 Mc Mm) : R1 (f_X5_setError Mc x y).2.2 (f_X6_setError Mm x y).2 := by
  rcases er_cases w h.2.1 x y with ⟨e1, e2⟩ | ⟨e1, e2⟩ | ⟨j, hj, hj8, e1, e2⟩ <;> rw [e1, e2]
  · exact R1_0 h
  · exact R1_0 h
  · obtain ⟨a1, a2, a3, a4⟩ := h
    dsimp only
    refine ⟨by simp -implicitDefEqProofs (disch := decide) only [gL_eq, gL_ne, gI_eq, gI_ne, gB_eq, gB_ne, gJ_eq, gJ_ne, gL_sI, gI_sL, gI_sB, gI_sJ, gL_sB, gL_sJ, gB_sI, gB_sL, gB_sJ, gJ_sI, gJ_sL, gJ_sB]; exact a1, by rw [gI_ne (by omega)]; simp -implicitDefEqProofs (disch := decide) only [gL_eq, gL_ne, gI_eq, gI_ne, gB_eq, gB_ne, gJ_eq, gJ_ne, gL_sI, gI_sL, gI_sB, gI_sJ, gL_sB, gL_sJ, gB_sI, gB_sL, gB_sJ, gJ_sI, gJ_sL, gJ_sB]; exact a2, by rw [gI_ne (by omega)]; simp -implicitDefEqProofs (disch := decide) only [gL_eq, gL_ne, gI_eq, gI_ne, gB_eq, gB_ne, gJ_eq, gJ_ne, gL_sI, gI_sL, gI_sB, gI_sJ, gL_sB, gL_sJ, gB_sI, gB_sL, gB_sJ, gJ_sI, gJ_sL, gJ_sB]; exact a3, fun k hk => ?_⟩
    rw [sn_sB, sn_sI0 (by decide)] at hk
    rw [gB_eq]
    by_cases e : k = j
    · rw [e, gI_eq, upd_eq]
    · rw [gI_ne (by omega), upd_ne e]; exact a4 k hk
theorem kp_11 {Mc Mm : Mem} (w : WFm Mm) (h : R1 Mc Mm) {x y : Int32} : cmpN (fun n => if n = 3 then 1 else if n = 1 then 2 else 0) (toJ (f_X5_setError Mc x y)) (toM (f_X6_setError Mm x y)) := by
  rcases er_cases w h.2.1 x y with ⟨e1, e2⟩ | ⟨e1, e2⟩ | ⟨j, hj, hj8, e1, e2⟩ <;> rw [e1, e2]
  · exact cI_thr (by decide) (by decide)
  · exact cI_thr (by decide) (by decide)
  · exact cI_ok (by simp -implicitDefEqProofs (disch := decide) only [gL_eq, gL_ne, gI_eq, gI_ne, gB_eq, gB_ne, gJ_eq, gJ_ne, gL_sI, gI_sL, gI_sB, gI_sJ, gL_sB, gL_sJ, gB_sI, gB_sL, gB_sJ, gJ_sI, gJ_sL, gJ_sB]) (h.2.2.2 j hj)
/-! exchange: the class -/
theorem put_I {M : Mem} {r : Nat} {p : Int32} {v : Int64} {i : Nat} : gI (f_X2_put M r p v) i = gI M i := by
  simp -implicitDefEqProofs (disch := decide) only [f_X2_put, bnd_e, bnd2_e]
  repeat' split
  all_goals first | rfl | exact gI_sJ
theorem put_L {M : Mem} {r : Nat} {p : Int32} {v : Int64} {i : Nat} : gL (f_X2_put M r p v) i = gL M i := by
  simp -implicitDefEqProofs (disch := decide) only [f_X2_put, bnd_e, bnd2_e]
  repeat' split
  all_goals first | rfl | exact gL_sJ
theorem push_I {M : Mem} {r : Nat} {v : Int64} {i : Nat} : gI (f_X2_push M r v) i = gI M i := by simp -implicitDefEqProofs (disch := decide) only [f_X2_push, bnd_e, bnd2_e, put_I]
theorem push_L {M : Mem} {r : Nat} {v : Int64} {i : Nat} : gL (f_X2_push M r v) i = gL M i := by simp -implicitDefEqProofs (disch := decide) only [f_X2_push, bnd_e, bnd2_e, put_L]
theorem E1_keep {M : Mem} {k : Nat} {a b c : Int64} : E1 M (f_X4_keep M k a b c) := by
  simp -implicitDefEqProofs (disch := decide) only [f_X4_keep, bnd_e, bnd2_e]
  refine ⟨?_, ?_, ?_, fun q => ?_⟩
  · simp -implicitDefEqProofs (disch := decide) only [gL_eq, gL_ne, gI_eq, gI_ne, gB_eq, gB_ne, gJ_eq, gJ_ne, gL_sI, gI_sL, gI_sB, gI_sJ, gL_sB, gL_sJ, gB_sI, gB_sL, gB_sJ, gJ_sI, gJ_sL, gJ_sB, push_L]
  · rw [gI_ne (by omega), gI_ne (by omega), push_I, push_I, push_I]
  · rw [gI_ne (by omega), gI_ne (by omega), push_I, push_I, push_I]
  · rw [gI_ne (by omega), gI_ne (by omega), push_I, push_I, push_I]
theorem exc_2 {M : Mem} {x p1 p2 p3 : Int32} {j : Nat} (h : f_X5_serverOrNull M x = some j) (hx : ¬ okX p1 p2 p3) : f_X5_exchange M x p1 p2 p3 = (1, 0, M) := by
  rw [f_X5_exchange, kn_yes h, thn_yes]
  simp -implicitDefEqProofs (disch := decide) only [bnd_e, bnd2_e]
  by_cases h1 : f_X5_isWithin p1 0 500000 = 0
  · rw [if_pos h1]
  · rw [if_neg h1]
    by_cases h2 : f_X5_isWithin p2 0 100000 = 0
    · rw [if_pos h2]
    · rw [if_neg h2]
      by_cases h3 : f_X5_isWithin p3 0 500000 = 0
      · rw [if_pos h3]
      · exact absurd ⟨h1, h2, h3⟩ hx
theorem exc_3 {M : Mem} {x p1 p2 p3 : Int32} {j : Nat} (h : f_X5_serverOrNull M x = some j) (hx : okX p1 p2 p3) (hm : (1000000000000 : Int64) < gL M 0 + p1.toInt64 + p2.toInt64 + p3.toInt64) : f_X5_exchange M x p1 p2 p3 = (2, 0, M) := by
  have e : gL M 0 + (p1.toInt64 + p2.toInt64 + p3.toInt64) = gL M 0 + p1.toInt64 + p2.toInt64 + p3.toInt64 := by rw [Int64.add_assoc, Int64.add_assoc, Int64.add_assoc]
  rw [f_X5_exchange, kn_yes h, thn_yes]
  simp -implicitDefEqProofs (disch := decide) only [bnd_e, bnd2_e, f_X5_isBeyondLastTrueTime, if_neg hx.1, if_neg hx.2.1, if_neg hx.2.2, e, if_pos hm]
  rw [if_neg (by decide)]
theorem exc_4 {M : Mem} {x p1 p2 p3 : Int32} {j : Nat} (h : f_X5_serverOrNull M x = some j) (hx : okX p1 p2 p3) (hm : ¬ (1000000000000 : Int64) < gL M 0 + p1.toInt64 + p2.toInt64 + p3.toInt64) : f_X5_exchange M x p1 p2 p3 = (0, (f_X5_takeSample M j p1 p2 p3).1, (f_X5_takeSample M j p1 p2 p3).2) := by
  have e : gL M 0 + (p1.toInt64 + p2.toInt64 + p3.toInt64) = gL M 0 + p1.toInt64 + p2.toInt64 + p3.toInt64 := by rw [Int64.add_assoc, Int64.add_assoc, Int64.add_assoc]
  rw [f_X5_exchange, kn_yes h, thn_yes]
  simp -implicitDefEqProofs (disch := decide) only [bnd_e, bnd2_e, f_X5_isBeyondLastTrueTime, if_neg hx.1, if_neg hx.2.1, if_neg hx.2.2, e, if_neg hm, if_true]
theorem take_mem {M : Mem} {j : Nat} {p1 p2 p3 : Int32} : ∃ a b c, (f_X5_takeSample M j p1 p2 p3).2 = f_X4_keep (f_X5_elapse (f_X5_elapse (f_X5_elapse M p1) p2) p3) j a b c := by
  rw [f_X5_takeSample]
  simp -implicitDefEqProofs (disch := decide) only [bnd_e, bnd2_e]
  exact ⟨_, _, _, rfl⟩
theorem R1_keep {Mc Mm M' : Mem} {j n' : Nat} {p1 p2 p3 : Int64} (h : R1 Mc Mm) (k : KP Mm M' j n' p1 p2 p3) : R1 Mc M' := by
  obtain ⟨k1, k2, k3, -⟩ := k
  exact ⟨h.1.trans (k2 0).symm, h.2.1.trans (k1 6).symm, h.2.2.1.trans (k1 1).symm, fun q hq => by rw [sn, k1, ← sn] at hq; rw [h.2.2.2 q hq, k3 2 (by decide)]⟩
theorem r1_12 {Mc Mm : Mem} {x p1 p2 p3 : Int32} (w : WFm Mm) (h : R1 Mc Mm) : R1 (f_X5_exchange Mc x p1 p2 p3).2.2 (f_X6_exchange Mm x p1 p2 p3).2 := by
  rcases srv_eq w h.2.1 x with ⟨h1, h2⟩ | ⟨j, hj, hj8, rfl, h1, h2⟩
  · obtain ⟨e1, e2⟩ := no_12 (y := p1) (z := p2) (u := p3) h1 h2
    rw [e1, e2]; exact R1_0 h
  · by_cases hx : okX p1 p2 p3
    · by_cases hm : (1000000000000 : Int64) < gL Mm 0 + p1.toInt64 + p2.toInt64 + p3.toInt64
      · rw [exc_3 h1 hx (by rw [h.1]; exact hm), exs_3 h2 hx hm]; exact R1_0 h
      · rw [exc_4 h1 hx (by rw [h.1]; exact hm), exs_4 hj8 h2 hx hm]
        dsimp only
        obtain ⟨w1, w2, w3⟩ := okX_i hx
        obtain ⟨a, b, c, e⟩ := take_mem (M := Mc) (j := j) (p1 := p1) (p2 := p2) (p3 := p3)
        rw [e]
        have hk3 : kn (x3M Mm p1 p2 p3) j ≤ 8 := (WFk (x3_w w) hj8).1
        exact R1_c (R1_keep (R1_go w3.1 (R1_go w2.1 (R1_go w1.1 (R1_0 h)))) (keep_spec hj8 hk3)) E1_keep
    · rw [exc_2 h1 hx, exs_2 h2 hx]; exact R1_0 h
/-! synchronize -/
theorem E1_elim {M : Mem} {o : Int64} : E1 M (f_X5_correctRate M o) := by
  simp -implicitDefEqProofs (disch := decide) only [f_X5_correctRate, f_X1_addCorrection, bnd_e, bnd2_e]
  repeat' split
  all_goals first | exact E1.rf | exact E1_sI ⟨by decide, by decide, fun k => by omega⟩
theorem E1_time {M : Mem} {o : Int64} : E1 M (f_X5_correctTime M o).2 := by
  simp -implicitDefEqProofs (disch := decide) only [f_X5_correctTime, f_X1_step, f_X1_slew, bnd_e, bnd2_e]
  split
  · exact ((E1_sL (by decide)).tr (E1_sL (by decide))).tr (E1_sI ⟨by decide, by decide, fun k => by omega⟩)
  · exact E1_sL (by decide)
theorem E1_peer {M : Mem} : E1 M (f_X5_takeStratumOfPeer M) := by
  simp -implicitDefEqProofs (disch := decide) only [f_X5_takeStratumOfPeer, bnd_e, bnd2_e]
  rcases ho : f_X5_serverOrNull (f_X5_select M) (f_X3_preferred (f_X5_select M)) with _ | k
  · rw [opt_none rfl]; exact EC_select.e1
  · rw [opt_some rfl]; exact EC_select.e1.tr (E1_sI ⟨by decide, by decide, fun k => by omega⟩)
theorem E1_forget : ∀ r i (M : Mem), E1 M (f_X5_forgetSamples_L2 r i M) := by
  intro r
  induction r with
  | zero => intro i M; rw [f_X5_forgetSamples_L2]; exact E1.rf
  | succ r ih =>
    intro i M
    rw [f_X5_forgetSamples_L2]
    simp -implicitDefEqProofs (disch := decide) only [bnd_e, bnd2_e, f_X4_forget]
    split
    · exact ((E1_sI ⟨by omega, by omega, fun k => by omega⟩).tr (E1_sI ⟨by omega, by omega, fun k => by omega⟩)).tr (ih _ _)
    · exact E1.rf
theorem E1_sync {M : Mem} : E1 M (f_X5_synchronize M).2.2 := by
  simp -implicitDefEqProofs (disch := decide) only [f_X5_synchronize, bnd_e, bnd2_e]
  split
  · exact EC_select.e1
  · exact (((((EC_select.e1.tr E1_elim).tr E1_time).tr E1_peer).tr (by rw [f_X5_forgetSamples]; exact E1_forget _ _ _)).tr (E1_sL (by decide))).tr (E1_sI ⟨by decide, by decide, fun k => by omega⟩)
theorem r1_27 {Mc Mm : Mem} (n : NI Mm) (w : WFm Mm) (h : R1 Mc Mm) : R1 (f_X5_synchronize Mc).2.2 (f_X6_synchronize Mm).2 := by
  refine R1_c ?_ E1_sync
  obtain ⟨-, hE, -, -⟩ := sel_ok n w
  by_cases hm : maj Mm
  · obtain ⟨g, g0, e⟩ := syn_yes hm
    rw [e]
    dsimp only
    have E3 : EQ Mm (y3 Mm) := hE.tr EQ_0
    have h3 := R1_m h E3
    refine ⟨?_, ?_, ?_, fun k hk => ?_⟩
    · rw [gL_sB, yE_L (by decide), yT_0, yR_L]; exact h3.1
    · rw [gI_sB, yE_I (by decide) (by decide), yT_I (by decide), yR_I (by decide)]; exact h3.2.1
    · rw [gI_sB, yE_I (by decide) (by decide), yT_I (by decide), yR_I (by decide)]; exact h3.2.2.1
    · rw [sn, gI_sB, yE_I (by decide) (by decide), yT_I (by decide), yR_I (by decide), ← sn] at hk
      rw [gB_ne (by decide), yE_B, yT_B, yR_B]
      exact h3.2.2.2 k hk
  · rw [syn_no hm]
    exact R1_m h (hE.tr EQ_0)
/-! the other calls of the class write nothing, or select -/
theorem c_14 {M : Mem} {x : Int32} : E1 M (f_X5_samples M x).2.2 := by
  rcases ho : f_X5_serverOrNull M x with _ | k
  · rw [f_X5_samples, kn_no ho, thn_no (by decide)]; exact E1.rf
  · rw [f_X5_samples, kn_yes ho, thn_yes]; simp -implicitDefEqProofs (disch := decide) only [bnd_e, bnd2_e]; exact E1.rf
theorem hr_st {M : Mem} {x : Int32} : ∃ n k, f_X5_heardServer M x = (n, k, M) := by
  rcases ho : f_X5_serverOrNull M x with _ | k
  · exact ⟨3, 0, hr_no ho⟩
  · rw [f_X5_heardServer, kn_yes ho, thn_yes]
    simp -implicitDefEqProofs (disch := decide) only [bnd_e, bnd2_e]
    split
    · exact ⟨2, 0, rfl⟩
    · exact ⟨0, k, rfl⟩
theorem thn_st {α : Type} {M : Mem} {n : Nat} {a : Nat} {f : Nat → Mem → Nat × α × Mem} {g : Nat → Mem → Nat × α × Mem} (h1 : (f n M).2.2 = M) (h2 : (g a M).2.2 = M) : (thn (n, a, M) f g).2.2 = M := by
  rw [thn]
  split
  · exact h2
  · exact h1
theorem c_15 {M : Mem} {x : Int32} : (f_X5_offset M x).2.2 = M := by
  obtain ⟨n, k, e⟩ := hr_st (M := M) (x := x)
  rw [f_X5_offset, e]
  exact thn_st rfl (by simp -implicitDefEqProofs (disch := decide) only [bnd_e, bnd2_e])
theorem c_16 {M : Mem} {x : Int32} : (f_X5_delay M x).2.2 = M := by
  obtain ⟨n, k, e⟩ := hr_st (M := M) (x := x)
  rw [f_X5_delay, e]
  exact thn_st rfl (by simp -implicitDefEqProofs (disch := decide) only [bnd_e, bnd2_e])
theorem c_17 {M : Mem} {x : Int32} : (f_X5_jitter M x).2.2 = M := by
  obtain ⟨n, k, e⟩ := hr_st (M := M) (x := x)
  rw [f_X5_jitter, e]
  exact thn_st rfl (by simp -implicitDefEqProofs (disch := decide) only [bnd_e, bnd2_e])
theorem c_18 {M : Mem} {x : Int32} : (f_X5_distance M x).2.2 = M := by
  obtain ⟨n, k, e⟩ := hr_st (M := M) (x := x)
  rw [f_X5_distance, e]
  exact thn_st rfl (by simp -implicitDefEqProofs (disch := decide) only [bnd_e, bnd2_e])
theorem c_19 {M : Mem} : (f_X5_agreement M).2 = f_X5_select M := by simp -implicitDefEqProofs (disch := decide) only [f_X5_agreement, bnd_e, bnd2_e]
theorem c_20 {M : Mem} : (f_X5_hasMajority M).2 = f_X5_select M := by simp -implicitDefEqProofs (disch := decide) only [f_X5_hasMajority, bnd_e, bnd2_e]
theorem c_21 {M : Mem} : (f_X5_agreeing M).2 = f_X5_select M := by simp -implicitDefEqProofs (disch := decide) only [f_X5_agreeing, bnd_e, bnd2_e]
theorem c_24 {M : Mem} : (f_X5_survivors M).2 = f_X5_select M := by simp -implicitDefEqProofs (disch := decide) only [f_X5_survivors, bnd_e, bnd2_e]
theorem c_26 {M : Mem} : (f_X5_peer M).2 = f_X5_select M := by simp -implicitDefEqProofs (disch := decide) only [f_X5_peer, bnd_e, bnd2_e]
theorem sfs_e {M : Mem} : ∃ n, f_X5_selectFromSome M = (n, f_X5_select M) := by
  simp -implicitDefEqProofs (disch := decide) only [f_X5_selectFromSome, bnd_e, bnd2_e]
  split
  · exact ⟨0, rfl⟩
  · exact ⟨2, rfl⟩
theorem thv_st {α : Type} {M : Mem} {n : Nat} {f : Nat → Mem → Nat × α × Mem} {g : Mem → Nat × α × Mem} (h1 : (f n M).2.2 = M) (h2 : (g M).2.2 = M) : (thv (n, M) f g).2.2 = M := by
  rw [thv]
  split
  · exact h2
  · exact h1
theorem c_22 {M : Mem} : (f_X5_low M).2.2 = f_X5_select M := by
  obtain ⟨n, e⟩ := sfs_e (M := M)
  rw [f_X5_low, e]
  exact thv_st rfl (by simp -implicitDefEqProofs (disch := decide) only [bnd_e, bnd2_e])
theorem c_23 {M : Mem} : (f_X5_high M).2.2 = f_X5_select M := by
  obtain ⟨n, e⟩ := sfs_e (M := M)
  rw [f_X5_high, e]
  exact thv_st rfl (by simp -implicitDefEqProofs (disch := decide) only [bnd_e, bnd2_e])
theorem c_25 {M : Mem} : (f_X5_combinedOffset M).2.2 = f_X5_select M := by
  obtain ⟨n, e⟩ := sfs_e (M := M)
  rw [f_X5_combinedOffset, e]
  exact thv_st rfl (by simp -implicitDefEqProofs (disch := decide) only [bnd_e, bnd2_e])
theorem kp_2r {Mc Mm : Mem} {x : Int32} (h : R1 Mc Mm) : cmpN (fun n => if n = 1 then 1 else 0) (toJ (f_X5_setDrift Mc x)) (toM (f_X6_setDrift Mm x)) := by
  rw [drift5, drift6]
  by_cases h1 : f_X5_isWithin x (-300) 300 = 0
  · rw [if_pos h1, if_pos h1]
    exact cI_thr (by decide) (by decide)
  · rw [if_neg h1, if_neg h1]
    exact cI_ok (by simp -implicitDefEqProofs (disch := decide) only [gL_eq, gL_ne, gI_eq, gI_ne, gB_eq, gB_ne, gJ_eq, gJ_ne, gL_sI, gI_sL, gI_sB, gI_sJ, gL_sB, gL_sJ, gB_sI, gB_sL, gB_sJ, gJ_sI, gJ_sL, gJ_sB]) h.2.2.1
theorem kp_3r {Mc Mm : Mem} (h : R1 Mc Mm) : f_X5_trueTime Mc = (f_X6_trueTime Mm).1 := by simp -implicitDefEqProofs (disch := decide) only [f_X5_trueTime, f_X6_trueTime, bnd_e, bnd2_e, finl_e, h.1]
theorem kp_13r {Mc Mm : Mem} (w : WFm Mm) (h : R1 Mc Mm) : f_X5_servers Mc = (f_X6_servers Mm).1 := by simp -implicitDefEqProofs (disch := decide) only [f_X5_servers, f_X6_servers, bnd_e, bnd2_e, fine_e, h.2.1, (WFs w).2]
theorem kp_10r {Mc Mm : Mem} (w : WFm Mm) (h : R1 Mc Mm) {p0 p1 p2 p3 : Int32} : cmpN (fun n => if n = 1 then 1 else if n = 2 then 2 else 0) (toJ (f_X5_addServer Mc p0 p1 p2 p3)) (toM (f_X6_addServer Mm p0 p1 p2 p3)) := by
  rcases add_cases w h.2.1 p0 p1 p2 p3 with ⟨e1, e2⟩ | ⟨e1, e2⟩ | ⟨-, -, e1, e2⟩ <;> rw [e1, e2]
  · exact cI_thr (by decide) (by decide)
  · exact cI_thr (by decide) (by decide)
  · exact cI_ok (by unfold set6; simp -implicitDefEqProofs (disch := decide) only [gL_eq, gL_ne, gI_eq, gI_ne, gB_eq, gB_ne, gJ_eq, gJ_ne, gL_sI, gI_sL, gI_sB, gI_sJ, gL_sB, gL_sJ, gB_sI, gB_sL, gB_sJ, gJ_sI, gJ_sL, gJ_sB]) rfl
