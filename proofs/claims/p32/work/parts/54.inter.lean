/-! the reference's intersection: a fold over the candidates, then the rows of those that agree -/
theorem upd_eq {f : Nat → Int32} {i : Nat} {v : Int32} : upd f i v i = v := by simp [upd]
theorem upd_ne {f : Nat → Int32} {i j : Nat} {v : Int32} (h : j ≠ i) : upd f i v j = f j := by simp [upd, h]
theorem has_01 {M : Mem} {j : Nat} {x : Int64} : f_X6_has M j x = 0 ∨ f_X6_has M j x = 1 := by
  simp -implicitDefEqProofs (disch := decide) only [f_X6_has, bnd_e, bnd2_e]
  repeat' split
  all_goals first | exact Or.inl rfl | exact Or.inr rfl
theorem k_pos {n : Nat} (hn : n < 2 ^ 31) : (0 : Int32) < nI n ↔ 0 < n := nI_ltI (a := 0) (by decide) hn
theorem has_iff {M : Mem} {j : Nat} {x : Int64} (hk : kn M j ≤ 8) : ¬ f_X6_has M j x = 0 ↔ 0 < kn M j ∧ ¬ x < f_X6_from M j ∧ ¬ f_X6_to M j < x := by
  simp -implicitDefEqProofs (disch := decide) only [f_X6_has, bnd_e, bnd2_e]
  by_cases h1 : (0 : Int32) < nI (kn M j)
  · rw [if_pos h1]
    have h1' := (k_pos (by omega)).mp h1
    by_cases h2 : x < f_X6_from M j
    · rw [if_pos h2]; exact ⟨fun h => absurd rfl h, fun h => absurd h2 h.2.1⟩
    · rw [if_neg h2]
      by_cases h3 : f_X6_to M j < x
      · rw [if_pos h3]; exact ⟨fun h => absurd rfl h, fun h => absurd h3 h.2.2⟩
      · rw [if_neg h3]; exact ⟨fun _ => ⟨h1', h2, h3⟩, fun _ => by decide⟩
  · rw [if_neg h1]
    exact ⟨fun h => absurd rfl h, fun h => absurd ((k_pos (by omega)).mpr h.1) h1⟩
def cvN (M : Mem) (x : Int64) : Nat → Nat
  | 0 => 0
  | i + 1 => cvN M x i + (if f_X6_has M i x = 0 then 0 else 1)
theorem cvN_le (M : Mem) (x : Int64) : ∀ i, cvN M x i ≤ i
  | 0 => Nat.le_refl 0
  | i + 1 => by
    have := cvN_le M x i
    rw [cvN]; split <;> omega
theorem cvN_pos {M : Mem} {x : Int64} {k : Nat} (h : ¬ f_X6_has M k x = 0) : ∀ i, k < i → 0 < cvN M x i
  | 0, hk => absurd hk (Nat.not_lt_zero k)
  | i + 1, hk => by
    rw [cvN]
    by_cases e : k = i
    · rw [← e, if_neg h]; omega
    · have := cvN_pos h i (by omega); omega
theorem cov_loop {M : Mem} {x : Int64} (hs : sn M ≤ 8) : ∀ r i y, i + r = sn M + 1 → i ≤ sn M → y = nI (cvN M x i) → f_X6_covers_L5 M x r i y = nI (cvN M x (sn M)) := by
  intro r
  induction r with
  | zero => intro i y h1 h2; omega
  | succ r ih =>
    intro i y h1 h2 hy
    rw [f_X6_covers_L5]
    by_cases hc : nI i < nI (sn M)
    · have hc' : i < sn M := nI_lt8 hc (by omega) (by omega)
      rw [if_pos hc]
      by_cases hh : f_X6_has M i x = 0
      · simp -implicitDefEqProofs (disch := decide) only [bnd_e, bnd2_e, if_pos hh]
        exact ih (i + 1) _ (by omega) (by omega) (by rw [hy, cvN, if_pos hh]; exact nI_add _ 0)
      · simp -implicitDefEqProofs (disch := decide) only [bnd_e, bnd2_e, if_neg hh]
        exact ih (i + 1) _ (by omega) (by omega) (by rw [hy, cvN, if_neg hh]; exact nI_1 _)
    · have e : i = sn M := by
        rcases Nat.lt_or_ge i (sn M) with q | q
        · exact absurd (nI_lt q (by omega)) hc
        · omega
      rw [if_neg hc, hy, e]
theorem cov_spec {M : Mem} {x : Int64} (hs : sn M ≤ 8) : f_X6_covers M x = nI (cvN M x (sn M)) := by
  rw [f_X6_covers]
  exact cov_loop hs _ _ _ (by omega) (by omega) rfl
/-- one candidate of the fold: how many so far, the most, its low end -/
def stp (M : Mem) (i : Nat) (z : Nat × Int32 × Int64) : Nat × Int32 × Int64 :=
  if 0 < kn M i then (if z.2.1 < f_X6_covers M (f_X6_from M i) then (z.1 + 1, f_X6_covers M (f_X6_from M i), f_X6_from M i) else if f_X6_covers M (f_X6_from M i) = z.2.1 then (if f_X6_from M i < z.2.2 then (z.1 + 1, f_X6_covers M (f_X6_from M i), f_X6_from M i) else (z.1 + 1, z.2.1, z.2.2)) else (z.1 + 1, z.2.1, z.2.2)) else z
def fld (M : Mem) (z : Nat × Int32 × Int64) : Nat → Nat × Int32 × Int64
  | 0 => z
  | i + 1 => stp M i (fld M z i)
theorem stp_1 {M : Mem} {i : Nat} {z : Nat × Int32 × Int64} : (stp M i z).1 = z.1 + (if 0 < kn M i then 1 else 0) := by
  unfold stp
  repeat' split
  all_goals rfl
theorem fld_1 {M : Mem} {z : Nat × Int32 × Int64} : ∀ i, (fld M z i).1 ≤ z.1 + i
  | 0 => Nat.le_refl _
  | i + 1 => by
    have := fld_1 (M := M) (z := z) i
    rw [fld, stp_1]; split <;> omega
def KE (M M' : Mem) : Prop := EQ M M' ∧ gI M' 0 = gI M 0 ∧ gB M' 6 = gB M 6 ∧ gB M' 7 = gB M 7 ∧ gL M' 5 = gL M 5
theorem KE.tr {A B C : Mem} (h : KE A B) (g : KE B C) : KE A C := ⟨h.1.tr g.1, g.2.1.trans h.2.1, g.2.2.1.trans h.2.2.1, g.2.2.2.1.trans h.2.2.2.1, g.2.2.2.2.trans h.2.2.2.2⟩
theorem KE_7 {M : Mem} {v : Int32} : KE M (sI M 7 v) := ⟨EQ_sI (by omega), gI_ne (by decide), gB_sI, gB_sI, gL_sI⟩
theorem KE_8 {M : Mem} {v : Int32} : KE M (sI M 8 v) := ⟨EQ_sI (by omega), gI_ne (by decide), gB_sI, gB_sI, gL_sI⟩
theorem KE_4 {M : Mem} {v : Int64} : KE M (sL M 4 v) := ⟨EQ_sL (by omega), gI_sL, gB_sL, gB_sL, gL_ne (by decide)⟩
theorem int_loop {M : Mem} {z0 : Nat × Int32 × Int64} (w : WFm M) (hz0 : z0.1 = 0) : ∀ r i M1, i + r = sn M + 1 → i ≤ sn M → KE M M1 → gI M1 7 = nI (fld M z0 i).1 → gI M1 8 = (fld M z0 i).2.1 → gL M1 4 = (fld M z0 i).2.2 →
    ∃ M2, f_X6_intersect_L12 r i M1 = f_X6_intersect_L130 (8 + 1 - 0) 0 M2 1 ∧ KE M M2 ∧ gI M2 7 = nI (fld M z0 (sn M)).1 ∧ gI M2 8 = (fld M z0 (sn M)).2.1 ∧ gL M2 4 = (fld M z0 (sn M)).2.2 := by
  have hs := (WFs w).1
  intro r
  induction r with
  | zero => intro i M1 h1 h2; omega
  | succ r ih =>
    intro i M1 h1 h2 hE e7 e8 e4
    rw [f_X6_intersect_L12]
    by_cases hc : nI i < nI (sn M1)
    · have hc2 := hc
      rw [EQ_sn hE.1] at hc2
      have hc' : i < sn M := nI_lt8 hc2 (by omega) (by omega)
      rw [if_pos hc]
      have hk := (WFk w (j := i) (by omega)).1
      have hle := fld_1 (M := M) (z := z0) i
      by_cases hp : (0 : Int32) < nI (kn M1 i)
      · rw [if_pos hp]
        rw [EQ_kn hE.1] at hp
        have hp' := (k_pos (by omega)).mp hp
        have es : fld M z0 (i + 1) = stp M i (fld M z0 i) := rfl
        generalize hz : fld M z0 i = z at es e7 e8 e4 hle
        have e71 : gI M1 7 + 1 = nI (z.1 + 1) := by rw [e7]; exact nI_1 _
        simp -implicitDefEqProofs (disch := decide) only [bnd_e, bnd2_e, from_eq hE.1, cov_eq hE.1, e8, e4]
        by_cases b1 : z.2.1 < f_X6_covers M (f_X6_from M i)
        · have es' : fld M z0 (i + 1) = (z.1 + 1, f_X6_covers M (f_X6_from M i), f_X6_from M i) := by rw [es]; unfold stp; rw [if_pos hp', if_pos b1]
          have hE2 : KE M (sI M1 7 (gI M1 7 + 1)) := hE.tr KE_7
          rw [if_pos b1, from_eq hE2.1]
          exact ih (i + 1) _ (by omega) (by omega) ((hE2.tr KE_4).tr KE_8) (by rw [es']; simp -implicitDefEqProofs (disch := decide) only [gL_eq, gL_ne, gI_eq, gI_ne, gB_eq, gB_ne, gJ_eq, gJ_ne, gL_sI, gI_sL, gI_sB, gI_sJ, gL_sB, gL_sJ, gB_sI, gB_sL, gB_sJ, gJ_sI, gJ_sL, gJ_sB, e71]) (by rw [es']; simp -implicitDefEqProofs (disch := decide) only [gL_eq, gL_ne, gI_eq, gI_ne, gB_eq, gB_ne, gJ_eq, gJ_ne, gL_sI, gI_sL, gI_sB, gI_sJ, gL_sB, gL_sJ, gB_sI, gB_sL, gB_sJ, gJ_sI, gJ_sL, gJ_sB]) (by rw [es']; simp -implicitDefEqProofs (disch := decide) only [gL_eq, gL_ne, gI_eq, gI_ne, gB_eq, gB_ne, gJ_eq, gJ_ne, gL_sI, gI_sL, gI_sB, gI_sJ, gL_sB, gL_sJ, gB_sI, gB_sL, gB_sJ, gJ_sI, gJ_sL, gJ_sB])
        · rw [if_neg b1]
          have keep : fld M z0 (i + 1) = (z.1 + 1, z.2.1, z.2.2) → ∃ M2, f_X6_intersect_L12 r (i + 1) (sI (sL (sI M1 7 (gI M1 7 + 1)) 4 (gL (sI M1 7 (gI M1 7 + 1)) 4)) 8 (gI (sL (sI M1 7 (gI M1 7 + 1)) 4 (gL (sI M1 7 (gI M1 7 + 1)) 4)) 8)) = f_X6_intersect_L130 (8 + 1 - 0) 0 M2 1 ∧ KE M M2 ∧ gI M2 7 = nI (fld M z0 (sn M)).1 ∧ gI M2 8 = (fld M z0 (sn M)).2.1 ∧ gL M2 4 = (fld M z0 (sn M)).2.2 := fun es' =>
            ih (i + 1) _ (by omega) (by omega) (((hE.tr KE_7).tr KE_4).tr KE_8) (by rw [es']; simp -implicitDefEqProofs (disch := decide) only [gL_eq, gL_ne, gI_eq, gI_ne, gB_eq, gB_ne, gJ_eq, gJ_ne, gL_sI, gI_sL, gI_sB, gI_sJ, gL_sB, gL_sJ, gB_sI, gB_sL, gB_sJ, gJ_sI, gJ_sL, gJ_sB, e71]) (by rw [es']; simp -implicitDefEqProofs (disch := decide) only [gL_eq, gL_ne, gI_eq, gI_ne, gB_eq, gB_ne, gJ_eq, gJ_ne, gL_sI, gI_sL, gI_sB, gI_sJ, gL_sB, gL_sJ, gB_sI, gB_sL, gB_sJ, gJ_sI, gJ_sL, gJ_sB, e8]) (by rw [es']; simp -implicitDefEqProofs (disch := decide) only [gL_eq, gL_ne, gI_eq, gI_ne, gB_eq, gB_ne, gJ_eq, gJ_ne, gL_sI, gI_sL, gI_sB, gI_sJ, gL_sB, gL_sJ, gB_sI, gB_sL, gB_sJ, gJ_sI, gJ_sL, gJ_sB, e4])
          by_cases b2 : f_X6_covers M (f_X6_from M i) = z.2.1
          · rw [if_pos b2]
            by_cases b3 : f_X6_from M i < z.2.2
            · have es' : fld M z0 (i + 1) = (z.1 + 1, f_X6_covers M (f_X6_from M i), f_X6_from M i) := by rw [es]; unfold stp; rw [if_pos hp', if_neg b1, if_pos b2, if_pos b3]
              have hE2 : KE M (sI M1 7 (gI M1 7 + 1)) := hE.tr KE_7
              rw [if_pos b3, from_eq hE2.1]
              exact ih (i + 1) _ (by omega) (by omega) ((hE2.tr KE_4).tr KE_8) (by rw [es']; simp -implicitDefEqProofs (disch := decide) only [gL_eq, gL_ne, gI_eq, gI_ne, gB_eq, gB_ne, gJ_eq, gJ_ne, gL_sI, gI_sL, gI_sB, gI_sJ, gL_sB, gL_sJ, gB_sI, gB_sL, gB_sJ, gJ_sI, gJ_sL, gJ_sB, e71]) (by rw [es']; simp -implicitDefEqProofs (disch := decide) only [gL_eq, gL_ne, gI_eq, gI_ne, gB_eq, gB_ne, gJ_eq, gJ_ne, gL_sI, gI_sL, gI_sB, gI_sJ, gL_sB, gL_sJ, gB_sI, gB_sL, gB_sJ, gJ_sI, gJ_sL, gJ_sB]) (by rw [es']; simp -implicitDefEqProofs (disch := decide) only [gL_eq, gL_ne, gI_eq, gI_ne, gB_eq, gB_ne, gJ_eq, gJ_ne, gL_sI, gI_sL, gI_sB, gI_sJ, gL_sB, gL_sJ, gB_sI, gB_sL, gB_sJ, gJ_sI, gJ_sL, gJ_sB])
            · rw [if_neg b3]
              exact keep (by rw [es]; unfold stp; rw [if_pos hp', if_neg b1, if_pos b2, if_neg b3])
          · rw [if_neg b2]
            exact keep (by rw [es]; unfold stp; rw [if_pos hp', if_neg b1, if_neg b2])
      · rw [if_neg hp]
        rw [EQ_kn hE.1] at hp
        have es : fld M z0 (i + 1) = fld M z0 i := by
          show stp M i (fld M z0 i) = _
          unfold stp
          rw [if_neg (fun q => hp ((k_pos (by omega)).mpr q))]
        exact ih (i + 1) M1 (by omega) (by omega) hE (by rw [es]; exact e7) (by rw [es]; exact e8) (by rw [es]; exact e4)
    · have e : i = sn M := by
        rw [EQ_sn hE.1] at hc
        rcases Nat.lt_or_ge i (sn M) with q | q
        · exact absurd (nI_lt q (by omega)) hc
        · omega
      rw [if_neg hc]
      rw [e] at e7 e8 e4
      exact ⟨M1, rfl, hE, e7, e8, e4⟩
/-- whether a server agrees -/
def agv (M : Mem) (i : Nat) : Int32 := if i < sn M then if 0 < gI M 7 then if f_X6_has M i (gL M 4) = 0 then 0 else 1 else 0 else 0
def stq (M : Mem) (i : Nat) (y : Int32) : Mem × Int32 :=
  if agv M i = 0 then (sB M 6 (upd (gB M 6) i 0), y) else
  (sL (sB M 6 (upd (gB M 6) i 1)) 5 (if y = 0 then if f_X6_to M i < gL M 5 then f_X6_to M i else gL M 5 else f_X6_to M i), 0)
theorem agv_01 {M : Mem} {i : Nat} : agv M i = 0 ∨ agv M i = 1 := by
  unfold agv
  repeat' split
  all_goals first | exact Or.inl rfl | exact Or.inr rfl
theorem agr_step {M : Mem} (hs : sn M ≤ 8) {r i : Nat} {y : Int32} (hi : i ≤ 8) : f_X6_intersect_L130 (r + 1) i M y = if i < 8 then f_X6_intersect_L130 r (i + 1) (stq M i y).1 (stq M i y).2 else M := by
  rw [f_X6_intersect_L130]
  by_cases h8 : i < 8
  · rw [if_pos h8, if_pos (show nI i < 8 from nI_lt (b := 8) h8 (by decide))]
    have to0 : ∀ v : Int32, f_X6_to (sB M 6 (upd (gB M 6) i v)) i = f_X6_to M i := fun v => to_eq (EQ_sB (by omega)) i
    have hN : (nI i < nI (sn M)) ↔ i < sn M := nI_ltI (by omega) (by omega)
    have Z : agv M i = 0 → (if gB (sB M 6 (upd (gB M 6) i 0)) 6 i = 0 then f_X6_intersect_L130 r (i + 1) (sB M 6 (upd (gB M 6) i 0)) y else if y = 0 then if f_X6_to (sB M 6 (upd (gB M 6) i 0)) i < gL (sB M 6 (upd (gB M 6) i 0)) 5 then f_X6_intersect_L130 r (i + 1) (sL (sB M 6 (upd (gB M 6) i 0)) 5 (f_X6_to (sB M 6 (upd (gB M 6) i 0)) i)) 0 else f_X6_intersect_L130 r (i + 1) (sL (sB M 6 (upd (gB M 6) i 0)) 5 (gL (sB M 6 (upd (gB M 6) i 0)) 5)) 0 else f_X6_intersect_L130 r (i + 1) (sL (sB M 6 (upd (gB M 6) i 0)) 5 (f_X6_to (sB M 6 (upd (gB M 6) i 0)) i)) 0) = f_X6_intersect_L130 r (i + 1) (stq M i y).1 (stq M i y).2 := by
      intro ha
      rw [if_pos (by rw [gB_eq, upd_eq])]
      unfold stq
      rw [if_pos ha]
    simp -implicitDefEqProofs (disch := decide) only [bnd_e, bnd2_e]
    by_cases c1 : i < sn M
    · rw [if_pos (hN.mpr c1)]
      by_cases c2 : (0 : Int32) < gI M 7
      · rw [if_pos c2]
        by_cases c3 : f_X6_has M i (gL M 4) = 0
        · rw [if_pos c3]
          exact Z (by unfold agv; rw [if_pos c1, if_pos c2, if_pos c3])
        · rw [if_neg c3]
          have ha : agv M i = 1 := by unfold agv; rw [if_pos c1, if_pos c2, if_neg c3]
          have hne : ¬ (1 : Int32) = 0 := by decide
          unfold stq
          rw [ha, if_neg hne, if_neg (by rw [gB_eq, upd_eq]; exact hne), to0, gL_sB]
          by_cases cy : y = 0
          · rw [if_pos cy, if_pos cy]
            by_cases ct : f_X6_to M i < gL M 5
            · rw [if_pos ct, if_pos ct]
            · rw [if_neg ct, if_neg ct]
          · rw [if_neg cy, if_neg cy]
      · rw [if_neg c2]
        exact Z (by unfold agv; rw [if_pos c1, if_neg c2])
    · rw [if_neg (fun q => c1 (hN.mp q))]
      exact Z (by unfold agv; rw [if_neg c1])
  · rw [if_neg h8, if_neg (fun q : nI i < 8 => h8 (nI_lt8 (n := 8) q (by omega) (by decide)))]
