/-! the survivors of the reference; what its divisions rest on -/
theorem surv_loop {M : Mem} : ∀ r i y, i + r = 9 → i ≤ 8 → y = nI (cntTo M i) → f_X6_surviving_L4 M r i y = nI (cnt7 M) := by
  intro r
  induction r with
  | zero => intro i y h1 h2; omega
  | succ r ih =>
    intro i y h1 h2 hy
    rw [f_X6_surviving_L4]
    by_cases hc : nI i < (8 : Int32)
    · have hc' : i < 8 := nI_lt8 (n := 8) hc (by omega) (by decide)
      rw [if_pos hc]
      by_cases h : gB M 7 i = 0
      · simp -implicitDefEqProofs (disch := decide) only [bnd_e, bnd2_e, if_pos h]
        exact ih _ _ (by omega) (by omega) (cnt_step hy h)
      · simp -implicitDefEqProofs (disch := decide) only [bnd_e, bnd2_e, if_neg h]
        exact ih _ _ (by omega) (by omega) (cnt_step1 hy h)
    · have e : i = 8 := by
        rcases Nat.lt_or_ge i 8 with q | q
        · exact absurd (nI_lt (a := i) (b := 8) q (by decide)) hc
        · omega
      rw [if_neg hc, hy, e, cnt7]
theorem surv_spec {M : Mem} : f_X6_surviving M = nI (cnt7 M) := by
  rw [f_X6_surviving]
  exact surv_loop _ _ _ (by omega) (by omega) rfl
theorem rem_two {M : Mem} : ∀ r i a b c, f_X6_removes_L10 M r i a b c = (0, M) ∨ ∃ j, f_X6_removes_L10 M r i a b c = (1, sB M 7 (upd (gB M 7) j 0)) := by
  intro r
  induction r with
  | zero => intro i a b c; exact Or.inl (by rw [f_X6_removes_L10])
  | succ r ih =>
    intro i a b c
    rw [f_X6_removes_L10]
    simp -implicitDefEqProofs (disch := decide) only [bnd_e, bnd2_e]
    repeat' split
    all_goals first | exact ih _ _ _ _ | exact Or.inl rfl | exact Or.inr ⟨_, rfl⟩
theorem upd_same {f : Nat → Int32} {k : Nat} (h : f k = 0) : upd f k 0 = f := by
  funext j
  by_cases e : j = k
  · rw [e, upd_eq, h]
  · rw [upd_ne e]
theorem cnt_less {M : Mem} {k : Nat} : cnt7 M ≤ cnt7 (sB M 7 (upd (gB M 7) k 0)) + 1 := by
  by_cases h : gB M 7 k = 0
  · rw [upd_same h, sB_self]; omega
  · have := cntTo_drop h 8
    unfold cnt7
    split at this <;> omega
/-- only the survivors' row moves -/
def KS (M1 M2 : Mem) : Prop := EQ M1 M2 ∧ gI M2 0 = gI M1 0 ∧ gI M2 7 = gI M1 7 ∧ gI M2 8 = gI M1 8 ∧ gL M2 4 = gL M1 4 ∧ gL M2 5 = gL M1 5 ∧ gB M2 6 = gB M1 6
theorem KS.rf {M : Mem} : KS M M := ⟨EQ.rf, rfl, rfl, rfl, rfl, rfl, rfl⟩
theorem KS.tr {A B C : Mem} (h : KS A B) (g : KS B C) : KS A C := ⟨h.1.tr g.1, g.2.1.trans h.2.1, g.2.2.1.trans h.2.2.1, g.2.2.2.1.trans h.2.2.2.1, g.2.2.2.2.1.trans h.2.2.2.2.1, g.2.2.2.2.2.1.trans h.2.2.2.2.2.1, g.2.2.2.2.2.2.trans h.2.2.2.2.2.2⟩
theorem KS_7 {M : Mem} {f : Nat → Int32} : KS M (sB M 7 f) := ⟨EQ_sB (by omega), gI_sB, gI_sB, gI_sB, gL_sB, gL_sB, gB_ne (by decide)⟩
theorem three_lt {n : Nat} (hn : n < 100) : (3 : Int32) < nI n ↔ 3 < n := nI_ltI (a := 3) (by decide) (by omega)
theorem sel_loop {M1 : Mem} : ∀ r i M y, KS M1 M → (∀ j, j < 8 → ¬ gB M 7 j = 0 → ¬ gB M1 6 j = 0) → (0 < cnt7 M ∨ ∀ j, j < 8 → gB M1 6 j = 0) →
    KS M1 (f_X6_select_L32 r i M y) ∧ (∀ j, j < 8 → ¬ gB (f_X6_select_L32 r i M y) 7 j = 0 → ¬ gB M1 6 j = 0) ∧ (0 < cnt7 (f_X6_select_L32 r i M y) ∨ ∀ j, j < 8 → gB M1 6 j = 0) := by
  intro r
  induction r with
  | zero => intro i M y h1 h2 h3; rw [f_X6_select_L32]; exact ⟨h1, h2, h3⟩
  | succ r ih =>
    intro i M y h1 h2 h3
    rw [f_X6_select_L32]
    by_cases hy : y = 0
    · rw [if_pos hy]; exact ⟨h1, h2, h3⟩
    · rw [if_neg hy, bnd_e, surv_spec]
      have hle := cntTo_le M 8
      by_cases hc : (3 : Int32) < nI (cnt7 M)
      · have hc' : 3 < cnt7 M := (three_lt (by unfold cnt7; omega)).mp hc
        rw [if_pos hc, bnd2_e]
        rcases rem_two (M := M) (8 + 1 - 0) 0 1 0 (-1) with e | ⟨k, e⟩
        · rw [f_X6_removes, e]
          exact ih _ _ _ h1 h2 h3
        · rw [f_X6_removes, e]
          have hl := cnt_less (M := M) (k := k)
          refine ih _ _ _ (h1.tr KS_7) (fun j hj hb => h2 j hj (fun q => hb ?_)) (Or.inl (by show 0 < cnt7 (sB M 7 (upd (gB M 7) k 0)); omega))
          show gB (sB M 7 (upd (gB M 7) k 0)) 7 j = 0
          rw [gB_eq]
          by_cases e9 : j = k
          · rw [e9, upd_eq]
          · rw [upd_ne e9]; exact q
      · rw [if_neg hc]; exact ⟨h1, h2, h3⟩
theorem cnt_zero {M : Mem} : ∀ i, cntTo M i = 0 → ∀ j, j < i → gB M 7 j = 0
  | 0, _, j, hj => absurd hj (Nat.not_lt_zero j)
  | i + 1, h, j, hj => by
    rw [cntTo] at h
    by_cases e : gB M 7 i = 0
    · rw [if_pos e] at h
      by_cases e2 : j = i
      · rw [e2]; exact e
      · exact cnt_zero i (by omega) j (by omega)
    · rw [if_neg e] at h; omega
theorem copy_loop {M1 : Mem} : ∀ r i M, i + r = 9 → i ≤ 8 → KS M1 M → (∀ j, j < i → gB M 7 j = gB M1 6 j) → ∃ M2, f_X6_select_L6 r i M = f_X6_select_L32 (9 + 1 - 0) 0 M2 1 ∧ KS M1 M2 ∧ ∀ j, j < 8 → gB M2 7 j = gB M1 6 j := by
  intro r
  induction r with
  | zero => intro i M h1 h2; omega
  | succ r ih =>
    intro i M h1 h2 hK h7
    rw [f_X6_select_L6]
    by_cases hc : nI i < (8 : Int32)
    · have hc' : i < 8 := nI_lt8 (n := 8) hc (by omega) (by decide)
      rw [if_pos hc, bnd_e]
      refine ih _ _ (by omega) (by omega) (hK.tr KS_7) (fun j hj => ?_)
      rw [gB_eq]
      by_cases e : j = i
      · rw [e, upd_eq, hK.2.2.2.2.2.2]
      · rw [upd_ne e]; exact h7 j (by omega)
    · have e : i = 8 := by
        rcases Nat.lt_or_ge i 8 with q | q
        · exact absurd (nI_lt (a := i) (b := 8) q (by decide)) hc
        · omega
      rw [if_neg hc]
      subst e
      exact ⟨M, rfl, hK, h7⟩
theorem sel_start {M : Mem} : ∃ M2, f_X6_select M = f_X6_select_L32 (9 + 1 - 0) 0 M2 1 ∧ KS (f_X6_intersect M) M2 ∧ ∀ j, j < 8 → gB M2 7 j = gB (f_X6_intersect M) 6 j := by
  obtain ⟨M2, e, h1, h2⟩ := copy_loop (M1 := f_X6_intersect M) (8 + 1 - 0) 0 (f_X6_intersect M) (by omega) (by omega) KS.rf (fun j h => absurd h (Nat.not_lt_zero j))
  exact ⟨M2, by rw [f_X6_select, bnd_e, e], h1, h2⟩
theorem sel_ok {M : Mem} (n : NI M) (w : WFm M) : KS (f_X6_intersect M) (f_X6_select M) ∧ EQ M (f_X6_select M) ∧ (∀ j, j < 8 → ¬ gB (f_X6_select M) 7 j = 0 → j < sn M ∧ 0 < kn M j) ∧
    ((gI (f_X6_select M) 7 = 0 ∧ gI (f_X6_select M) 8 = 0) ∨ ∃ j, j < 8 ∧ ¬ gB (f_X6_select M) 7 j = 0) := by
  obtain ⟨hE, hA, hX⟩ := inter_ok n w
  obtain ⟨M2, e, k2, h7⟩ := sel_start (M := M)
  have h0 : 0 < cnt7 M2 ∨ ∀ j, j < 8 → gB (f_X6_intersect M) 6 j = 0 := by
    rcases Nat.eq_zero_or_pos (cnt7 M2) with q | q
    · right
      intro j hj
      rw [← h7 j hj]
      exact cnt_zero 8 q j hj
    · exact Or.inl q
  obtain ⟨a1, a2, a3⟩ := sel_loop (M1 := f_X6_intersect M) (9 + 1 - 0) 0 M2 1 k2 (fun j hj hb => by rw [h7 j hj] at hb; exact hb) h0
  rw [← e] at a1 a2 a3
  refine ⟨a1, hE.tr a1.1, fun j hj hb => hA j hj (a2 j hj hb), ?_⟩
  rw [a1.2.2.1, a1.2.2.2.1]
  rcases hX with h | ⟨j, hj, hb⟩
  · exact Or.inl h
  · right
    rcases a3 with q | q
    · exact cntTo_ex q
    · exact absurd (q j hj) hb
theorem DP_of {M : Mem} (n : NI M) (w : WFm M) : DH_25 M ∧ DH_27 M ∧ DD M := by
  obtain ⟨-, hE, hC, hX⟩ := sel_ok n w
  refine ⟨fun M1 e h => ?_, fun M1 e h => ?_, fun M1 M2 r e1 e2 j hj hb => ?_⟩
  · subst e
    rcases hX with ⟨q, -⟩ | q
    · exact absurd q h
    · exact q
  · subst e
    rcases hX with ⟨q1, q2⟩ | q
    · rw [q1, q2] at h; exact absurd h (by decide)
    · exact q
  · have e3 : M2 = sI M1 0 0 := by have := congrArg Prod.snd e2; rw [ref_e] at this; exact this
    rw [e3, gB_sI, e1] at hb
    obtain ⟨c1, c2⟩ := hC j hj hb
    rw [e3, e1, dist_eq (EQ_sI (Or.inl rfl)), dist_eq hE]
    exact dist_ne n w c1 c2
