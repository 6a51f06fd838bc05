/-! the reference's memory: what its numbers keep to -/
def nowI (M : Mem) : Int := (gL M 0).toInt
def picI (M : Mem) : Int := (gL M 1).toInt
def dev (M : Mem) : Int := picI M - nowI M * 1000000
def okN (D now rd o d t : Int) : Prop := -4000000000 ≤ o ∧ D + o * 1000000 ≤ 2000000000000 + 1300 * now ∧ 0 ≤ d ∧ d ≤ 4000000 ∧ -4000000000 ≤ t ∧ t ≤ rd
def okV (M : Mem) (k : Nat) : Prop := (-1000000 ≤ (gB M 2 k).toInt ∧ (gB M 2 k).toInt ≤ 1000000) ∧ (0 ≤ (gB M 3 k).toInt ∧ (gB M 3 k).toInt ≤ 1000000) ∧ (0 ≤ (gB M 4 k).toInt ∧ (gB M 4 k).toInt ≤ 1000000) ∧
  ∀ t, t < kn M k → okN (dev M) (nowI M) (picI M / 1000000) (gJ M 0 (8 * k + t)).toInt (gJ M 1 (8 * k + t)).toInt (gJ M 2 (8 * k + t)).toInt
def okG (M : Mem) : Prop := (0 ≤ nowI M ∧ nowI M ≤ 1000000000000) ∧ (-1000000000000000 - 1300 * nowI M ≤ dev M ∧ dev M ≤ 2000000000000000 + 1300 * nowI M) ∧ (-300 ≤ (gI M 1).toInt ∧ (gI M 1).toInt ≤ 300) ∧ (-500 ≤ (gI M 2).toInt ∧ (gI M 2).toInt ≤ 500)
def NI (M : Mem) : Prop := okG M ∧ ∀ k, k < sn M → okV M k
/-- what the selection leaves as it was -/
def EQ (M M' : Mem) : Prop := (∀ i, i ≠ 0 → i ≠ 7 → i ≠ 8 → gI M' i = gI M i) ∧ (∀ i, i ≠ 4 → i ≠ 5 → gL M' i = gL M i) ∧ (∀ a, a ≠ 6 → a ≠ 7 → gB M' a = gB M a) ∧ (∀ a, gJ M' a = gJ M a)
theorem EQ.rf {M : Mem} : EQ M M := ⟨fun _ _ _ _ => rfl, fun _ _ _ => rfl, fun _ _ _ => rfl, fun _ => rfl⟩
theorem EQ.tr {A B C : Mem} (h : EQ A B) (g : EQ B C) : EQ A C := ⟨fun i a b c => (g.1 i a b c).trans (h.1 i a b c), fun i a b => (g.2.1 i a b).trans (h.2.1 i a b), fun i a b => (g.2.2.1 i a b).trans (h.2.2.1 i a b), fun a => (g.2.2.2 a).trans (h.2.2.2 a)⟩
theorem EQ_sI {M : Mem} {i : Nat} {v : Int32} (h : i = 0 ∨ i = 7 ∨ i = 8) : EQ M (sI M i v) := ⟨fun j a b c => gI_ne (by omega), fun _ _ _ => gL_sI, fun _ _ _ => gB_sI, fun _ => gJ_sI⟩
theorem EQ_sL {M : Mem} {i : Nat} {v : Int64} (h : i = 4 ∨ i = 5) : EQ M (sL M i v) := ⟨fun _ _ _ _ => gI_sL, fun j a b => gL_ne (by omega), fun _ _ _ => gB_sL, fun _ => gJ_sL⟩
theorem EQ_sB {M : Mem} {i : Nat} {v : Nat → Int32} (h : i = 6 ∨ i = 7) : EQ M (sB M i v) := ⟨fun _ _ _ _ => gI_sB, fun _ _ _ => gL_sB, fun j a b => gB_ne (by omega), fun _ => gJ_sB⟩
theorem EQ_ref {M : Mem} {p : Int32} : EQ M (f_X6_refused M p).2 := by rw [ref_e]; exact EQ_sI (Or.inl rfl)
theorem EQ_sn {M M' : Mem} (h : EQ M M') : sn M' = sn M := by rw [sn, sn, h.1 6 (by decide) (by decide) (by decide)]
theorem EQ_kn {M M' : Mem} (h : EQ M M') (j : Nat) : kn M' j = kn M j := by rw [kn, kn, h.2.2.1 5 (by decide) (by decide)]
theorem NI.eq {M M' : Mem} (h : EQ M M') (n : NI M) : NI M' := by
  obtain ⟨hI, hL, hB, hJ⟩ := id h
  obtain ⟨hc, hv⟩ := n
  have e0 := hL 0 (by decide) (by decide)
  have e1 := hL 1 (by decide) (by decide)
  refine ⟨?_, fun k hk => ?_⟩
  · unfold okG dev picI nowI at hc ⊢
    rw [e0, e1, hI 1 (by decide) (by decide) (by decide), hI 2 (by decide) (by decide) (by decide)]
    exact hc
  · have := hv k (by rw [EQ_sn h] at hk; exact hk)
    unfold okV dev picI nowI at this ⊢
    rw [e0, e1, hB 2 (by decide) (by decide), hB 3 (by decide) (by decide), hB 4 (by decide) (by decide), hJ, hJ, hJ, (EQ_kn h)]
    exact this
/-! the best sample of a server -/
def BS (M : Mem) (j c : Nat) : Prop := (8 * j ≤ c ∧ c < 8 * j + kn M j) ∧ (∀ t, 8 * j ≤ t → t < 8 * j + kn M j → (gJ M 1 c).toInt ≤ (gJ M 1 t).toInt) ∧ (∀ t, c < t → t < 8 * j + kn M j → (gJ M 1 c).toInt < (gJ M 1 t).toInt)
theorem best_loop {M : Mem} {j : Nat} (hj : j < 8) (hn : kn M j ≤ 8) : ∀ r i b, i + r = 8 * j + kn M j + 1 → i ≤ 8 * j + kn M j → ((i = 8 * j ∧ b = 8 * j) ∨ ((8 * j ≤ b ∧ b < i) ∧ (∀ t, 8 * j ≤ t → t < i → (gJ M 1 b).toInt ≤ (gJ M 1 t).toInt) ∧ (∀ t, b < t → t < i → (gJ M 1 b).toInt < (gJ M 1 t).toInt))) →
    ∃ c, c < 64 ∧ f_X6_best_L10 M j r i b = nI c ∧ (0 < kn M j → BS M j c) := by
  intro r
  induction r with
  | zero => intro i b h1 h2; omega
  | succ r ih =>
    intro i b h1 h2 hI
    rw [f_X6_best_L10]
    by_cases hc : nI i < nI (8 * j + kn M j)
    · have hc' : i < 8 * j + kn M j := nI_lt8 hc (by omega) (by omega)
      rw [if_pos hc]
      by_cases hf : gJ M 1 b < gJ M 1 i
      · rw [if_pos hf]
        rw [l_lt] at hf
        refine ih (i + 1) b (by omega) (by omega) ?_
        rcases hI with ⟨e1, e2⟩ | ⟨⟨g1, g2⟩, g3, g4⟩
        · rw [e1, e2] at hf; exact absurd hf (Int.lt_irrefl _)
        · right
          refine ⟨⟨g1, by omega⟩, fun t a b => ?_, fun t a b => ?_⟩
          · by_cases e : t = i
            · rw [e]; omega
            · exact g3 t a (by omega)
          · by_cases e : t = i
            · rw [e]; exact hf
            · exact g4 t a (by omega)
      · rw [if_neg hf]
        rw [l_lt] at hf
        refine ih (i + 1) i (by omega) (by omega) (Or.inr ⟨⟨?_, by omega⟩, fun t a b => ?_, fun t a b => by omega⟩)
        · rcases hI with ⟨e1, e2⟩ | ⟨⟨g1, g2⟩, g3, g4⟩ <;> omega
        · by_cases e : t = i
          · rw [e]; exact Int.le_refl _
          · rcases hI with ⟨e1, e2⟩ | ⟨⟨g1, g2⟩, g3, g4⟩
            · omega
            · have := g3 t a (by omega); omega
    · have e : i = 8 * j + kn M j := by
        rcases Nat.lt_or_ge i (8 * j + kn M j) with q | q
        · exact absurd (nI_lt q (by omega)) hc
        · omega
      rw [if_neg hc]
      subst e
      refine ⟨b, ?_, rfl, fun h0 => ?_⟩
      · rcases hI with ⟨e1, e2⟩ | ⟨⟨g1, g2⟩, g3, g4⟩ <;> omega
      · rcases hI with ⟨e1, e2⟩ | h
        · omega
        · exact h
def bx (M : Mem) (j : Nat) : Nat := (f_X6_best M j).toNatClampNeg
theorem best_spec {M : Mem} {j : Nat} (hj : j < 8) (hn : kn M j ≤ 8) : f_X6_best M j = nI (bx M j) ∧ bx M j < 64 ∧ (0 < kn M j → BS M j (bx M j)) := by
  obtain ⟨c, hc, e, hB⟩ := best_loop hj hn (8 * j + kn M j + 1 - 8 * j) (8 * j) (8 * j) (by omega) (by omega) (Or.inl ⟨rfl, rfl⟩)
  have e2 : bx M j = c := by unfold bx; rw [f_X6_best, e, nI_clamp (by omega)]
  rw [e2]
  exact ⟨by rw [f_X6_best, e], hc, hB⟩
theorem BS_one {M : Mem} {j c d : Nat} (h : BS M j c) (g : BS M j d) : c = d := by
  obtain ⟨⟨a1, a2⟩, a3, a4⟩ := h
  obtain ⟨⟨b1, b2⟩, b3, b4⟩ := g
  rcases Nat.lt_trichotomy c d with q | q | q
  · have := a4 d q b2; have := b3 c a1 a2; omega
  · exact q
  · have := b4 c q a2; have := a3 d b1 b2; omega
theorem best_eq {M M' : Mem} (h : EQ M M') (j : Nat) : f_X6_best M' j = f_X6_best M j := by
  have L : ∀ r i b, f_X6_best_L10 M' j r i b = f_X6_best_L10 M j r i b := by
    intro r
    induction r with
    | zero => intro i b; rw [f_X6_best_L10, f_X6_best_L10]
    | succ r ih => intro i b; rw [f_X6_best_L10, f_X6_best_L10, (EQ_kn h), h.2.2.2, ih, ih]
  rw [f_X6_best, f_X6_best, (EQ_kn h), L]
theorem bx_eq {M M' : Mem} (h : EQ M M') (j : Nat) : bx M' j = bx M j := by unfold bx; rw [best_eq h]
theorem jit_eq {M M' : Mem} (h : EQ M M') (j : Nat) : f_X6_jitterOf M' j = f_X6_jitterOf M j := by
  have L : ∀ r i y, f_X6_jitterOf_L8 M' j r i y = f_X6_jitterOf_L8 M j r i y := by
    intro r
    induction r with
    | zero => intro i b; rw [f_X6_jitterOf_L8, f_X6_jitterOf_L8]
    | succ r ih => intro i b; rw [f_X6_jitterOf_L8, f_X6_jitterOf_L8, (EQ_kn h), h.2.2.2, best_eq h]; simp -implicitDefEqProofs (disch := decide) only [bnd_e, bnd2_e, ih]
  rw [f_X6_jitterOf, f_X6_jitterOf, (EQ_kn h), L]
theorem read_eq {M M' : Mem} (h : EQ M M') : f_X6_reading M' = f_X6_reading M := by rw [rd6, rd6, h.2.1 1 (by decide) (by decide)]
theorem dist_e {M : Mem} {j : Nat} : f_X6_distanceOf M j = (gB M 3 j / 2).toInt64 + gJ M 1 (bx M j) / 2 + (gB M 4 j).toInt64 + f_X6_jitterOf M j + f_X6_down (15 * (f_X6_reading M - gJ M 2 (bx M j))) 1000000 := by
  unfold bx
  simp -implicitDefEqProofs (disch := decide) only [f_X6_distanceOf, bnd_e, bnd2_e]
theorem dist_eq {M M' : Mem} (h : EQ M M') (j : Nat) : f_X6_distanceOf M' j = f_X6_distanceOf M j := by
  rw [dist_e, dist_e, bx_eq h, jit_eq h, read_eq h, h.2.2.2, h.2.2.2, h.2.2.1 3 (by decide) (by decide), h.2.2.1 4 (by decide) (by decide)]
theorem from_e {M : Mem} {j : Nat} : f_X6_from M j = gJ M 0 (bx M j) - f_X6_distanceOf M j := by unfold bx; simp -implicitDefEqProofs (disch := decide) only [f_X6_from, bnd_e, bnd2_e]
theorem to_e {M : Mem} {j : Nat} : f_X6_to M j = gJ M 0 (bx M j) + f_X6_distanceOf M j := by unfold bx; simp -implicitDefEqProofs (disch := decide) only [f_X6_to, bnd_e, bnd2_e]
theorem from_eq {M M' : Mem} (h : EQ M M') (j : Nat) : f_X6_from M' j = f_X6_from M j := by rw [from_e, from_e, bx_eq h, dist_eq h, h.2.2.2]
theorem to_eq {M M' : Mem} (h : EQ M M') (j : Nat) : f_X6_to M' j = f_X6_to M j := by rw [to_e, to_e, bx_eq h, dist_eq h, h.2.2.2]
theorem has_eq {M M' : Mem} (h : EQ M M') (j : Nat) (x : Int64) : f_X6_has M' j x = f_X6_has M j x := by
  simp -implicitDefEqProofs (disch := decide) only [f_X6_has, bnd_e, bnd2_e, (EQ_kn h), from_eq h, to_eq h]
theorem cov_eq {M M' : Mem} (h : EQ M M') (x : Int64) : f_X6_covers M' x = f_X6_covers M x := by
  have L : ∀ r i y, f_X6_covers_L5 M' x r i y = f_X6_covers_L5 M x r i y := by
    intro r
    induction r with
    | zero => intro i b; rw [f_X6_covers_L5, f_X6_covers_L5]
    | succ r ih => intro i b; rw [f_X6_covers_L5, f_X6_covers_L5, (EQ_sn h), has_eq h]; simp -implicitDefEqProofs (disch := decide) only [bnd_e, bnd2_e, ih]
  rw [f_X6_covers, f_X6_covers, (EQ_sn h), L]
