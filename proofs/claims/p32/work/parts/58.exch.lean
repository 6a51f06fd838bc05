/-! a sample is taken -/
theorem updL_eq {f : Nat → Int64} {i : Nat} {v : Int64} : vp_updL f i v i = v := by simp [vp_updL]
theorem updL_ne {f : Nat → Int64} {i j : Nat} {v : Int64} (h : j ≠ i) : vp_updL f i v j = f j := by simp [vp_updL, h]
def SHp (M0 M : Mem) (j i : Nat) : Prop := (∀ k, gI M k = gI M0 k) ∧ (∀ k, gL M k = gL M0 k) ∧ (∀ a, gB M a = gB M0 a) ∧ ∀ a, a < 3 → ∀ t, gJ M a t = if 8 * j ≤ t ∧ t < i then gJ M0 a (t + 1) else gJ M0 a t
def nw (p1 p2 p3 : Int64) (a : Nat) : Int64 := if a = 0 then p1 else if a = 1 then p2 else p3
theorem lt3 {a : Nat} (h : a < 3) : a = 0 ∨ a = 1 ∨ a = 2 := by omega
theorem SH_step {M0 M : Mem} {j i : Nat} (hi : 8 * j ≤ i) (h : SHp M0 M j i) : SHp M0 (sJ (sJ (sJ M 0 (vp_updL (gJ M 0) i (gJ M 0 (i + 1)))) 1 (vp_updL (gJ (sJ M 0 (vp_updL (gJ M 0) i (gJ M 0 (i + 1)))) 1) i (gJ (sJ M 0 (vp_updL (gJ M 0) i (gJ M 0 (i + 1)))) 1 (i + 1)))) 2 (vp_updL (gJ (sJ (sJ M 0 (vp_updL (gJ M 0) i (gJ M 0 (i + 1)))) 1 (vp_updL (gJ (sJ M 0 (vp_updL (gJ M 0) i (gJ M 0 (i + 1)))) 1) i (gJ (sJ M 0 (vp_updL (gJ M 0) i (gJ M 0 (i + 1)))) 1 (i + 1)))) 2) i (gJ (sJ (sJ M 0 (vp_updL (gJ M 0) i (gJ M 0 (i + 1)))) 1 (vp_updL (gJ (sJ M 0 (vp_updL (gJ M 0) i (gJ M 0 (i + 1)))) 1) i (gJ (sJ M 0 (vp_updL (gJ M 0) i (gJ M 0 (i + 1)))) 1 (i + 1)))) 2 (i + 1)))) j (i + 1) := by
  obtain ⟨h1, h2, h3, h4⟩ := h
  refine ⟨fun k => ?_, fun k => ?_, fun k => ?_, fun a ha t => ?_⟩
  · simp -implicitDefEqProofs (disch := decide) only [gL_eq, gL_ne, gI_eq, gI_ne, gB_eq, gB_ne, gJ_eq, gJ_ne, gL_sI, gI_sL, gI_sB, gI_sJ, gL_sB, gL_sJ, gB_sI, gB_sL, gB_sJ, gJ_sI, gJ_sL, gJ_sB]; exact h1 k
  · simp -implicitDefEqProofs (disch := decide) only [gL_eq, gL_ne, gI_eq, gI_ne, gB_eq, gB_ne, gJ_eq, gJ_ne, gL_sI, gI_sL, gI_sB, gI_sJ, gL_sB, gL_sJ, gB_sI, gB_sL, gB_sJ, gJ_sI, gJ_sL, gJ_sB]; exact h2 k
  · simp -implicitDefEqProofs (disch := decide) only [gL_eq, gL_ne, gI_eq, gI_ne, gB_eq, gB_ne, gJ_eq, gJ_ne, gL_sI, gI_sL, gI_sB, gI_sJ, gL_sB, gL_sJ, gB_sI, gB_sL, gB_sJ, gJ_sI, gJ_sL, gJ_sB]; exact h3 k
  · have E : ∀ b, b < 3 → vp_updL (gJ M b) i (gJ M b (i + 1)) t = if 8 * j ≤ t ∧ t < i + 1 then gJ M0 b (t + 1) else gJ M0 b t := by
      intro b hb
      by_cases e : t = i
      · rw [e, updL_eq, h4 b hb, if_neg (by omega), if_pos (by omega)]
      · rw [updL_ne e, h4 b hb]
        by_cases c : 8 * j ≤ t ∧ t < i
        · rw [if_pos c, if_pos (by omega)]
        · rw [if_neg c, if_neg (by omega)]
    rcases lt3 ha with rfl | rfl | rfl
    · simp -implicitDefEqProofs (disch := decide) only [gL_eq, gL_ne, gI_eq, gI_ne, gB_eq, gB_ne, gJ_eq, gJ_ne, gL_sI, gI_sL, gI_sB, gI_sJ, gL_sB, gL_sJ, gB_sI, gB_sL, gB_sJ, gJ_sI, gJ_sL, gJ_sB]; exact E 0 (by omega)
    · simp -implicitDefEqProofs (disch := decide) only [gL_eq, gL_ne, gI_eq, gI_ne, gB_eq, gB_ne, gJ_eq, gJ_ne, gL_sI, gI_sL, gI_sB, gI_sJ, gL_sB, gL_sJ, gB_sI, gB_sL, gB_sJ, gJ_sI, gJ_sL, gJ_sB]; exact E 1 (by omega)
    · simp -implicitDefEqProofs (disch := decide) only [gL_eq, gL_ne, gI_eq, gI_ne, gB_eq, gB_ne, gJ_eq, gJ_ne, gL_sI, gI_sL, gI_sB, gI_sJ, gL_sB, gL_sJ, gB_sI, gB_sL, gB_sJ, gJ_sI, gJ_sL, gJ_sB]; exact E 2 (by omega)
def KP (M M' : Mem) (j n' : Nat) (p1 p2 p3 : Int64) : Prop := (∀ k, gI M' k = gI M k) ∧ (∀ k, gL M' k = gL M k) ∧ (∀ a, a ≠ 5 → gB M' a = gB M a) ∧ (∀ k, k ≠ j → gB M' 5 k = gB M 5 k) ∧ gB M' 5 j = nI n' ∧
  ∀ a, a < 3 → ∀ t, gJ M' a t = if t = 8 * j + (n' - 1) then nw p1 p2 p3 a else if kn M j = 8 ∧ 8 * j ≤ t ∧ t < 8 * j + 7 then gJ M a (t + 1) else gJ M a t
theorem kn_at {M : Mem} {j n : Nat} (hn : n < 100) (h : gB M 5 j = nI n) : kn M j = n := by rw [kn, h, nI_clamp (by omega)]
theorem keep_end {M0 M1 : Mem} {j n' : Nat} {p1 p2 p3 : Int64} (hn : n' < 9) (h0 : 0 < n')
    (h1 : ∀ k, gI M1 k = gI M0 k) (h2 : ∀ k, gL M1 k = gL M0 k) (h3 : ∀ a, a ≠ 5 → gB M1 a = gB M0 a) (h5 : ∀ k, k ≠ j → gB M1 5 k = gB M0 5 k) (h6 : kn M1 j = n' - 1)
    (h4 : ∀ a, a < 3 → ∀ t, gJ M1 a t = if kn M0 j = 8 ∧ 8 * j ≤ t ∧ t < 8 * j + 7 then gJ M0 a (t + 1) else gJ M0 a t) :
    KP M0 (sB (sJ (sJ (sJ M1 0 (vp_updL (gJ M1 0) (8 * j + (n' - 1)) p1)) 1 (vp_updL (gJ M1 1) (8 * j + (n' - 1)) p2)) 2 (vp_updL (gJ M1 2) (8 * j + (n' - 1)) p3)) 5 (upd (gB M1 5) j (nI n'))) j n' p1 p2 p3 := by
  refine ⟨fun k => ?_, fun k => ?_, fun a ha => ?_, fun k hk => ?_, ?_, fun a ha t => ?_⟩
  · simp -implicitDefEqProofs (disch := decide) only [gL_eq, gL_ne, gI_eq, gI_ne, gB_eq, gB_ne, gJ_eq, gJ_ne, gL_sI, gI_sL, gI_sB, gI_sJ, gL_sB, gL_sJ, gB_sI, gB_sL, gB_sJ, gJ_sI, gJ_sL, gJ_sB]; exact h1 k
  · simp -implicitDefEqProofs (disch := decide) only [gL_eq, gL_ne, gI_eq, gI_ne, gB_eq, gB_ne, gJ_eq, gJ_ne, gL_sI, gI_sL, gI_sB, gI_sJ, gL_sB, gL_sJ, gB_sI, gB_sL, gB_sJ, gJ_sI, gJ_sL, gJ_sB]; exact h2 k
  · rw [gB_ne ha]; simp -implicitDefEqProofs (disch := decide) only [gL_eq, gL_ne, gI_eq, gI_ne, gB_eq, gB_ne, gJ_eq, gJ_ne, gL_sI, gI_sL, gI_sB, gI_sJ, gL_sB, gL_sJ, gB_sI, gB_sL, gB_sJ, gJ_sI, gJ_sL, gJ_sB]; exact h3 a ha
  · rw [gB_eq, upd_ne hk]; exact h5 k hk
  · rw [gB_eq, upd_eq]
  · have E : ∀ b, b < 3 → vp_updL (gJ M1 b) (8 * j + (n' - 1)) (nw p1 p2 p3 b) t = if t = 8 * j + (n' - 1) then nw p1 p2 p3 b else if kn M0 j = 8 ∧ 8 * j ≤ t ∧ t < 8 * j + 7 then gJ M0 b (t + 1) else gJ M0 b t := by
      intro b hb
      by_cases e : t = 8 * j + (n' - 1)
      · rw [if_pos e, e, updL_eq]
      · rw [if_neg e, updL_ne e, h4 b hb]
    rcases lt3 ha with rfl | rfl | rfl
    · simp -implicitDefEqProofs (disch := decide) only [gL_eq, gL_ne, gI_eq, gI_ne, gB_eq, gB_ne, gJ_eq, gJ_ne, gL_sI, gI_sL, gI_sB, gI_sJ, gL_sB, gL_sJ, gB_sI, gB_sL, gB_sJ, gJ_sI, gJ_sL, gJ_sB]; exact E 0 (by omega)
    · simp -implicitDefEqProofs (disch := decide) only [gL_eq, gL_ne, gI_eq, gI_ne, gB_eq, gB_ne, gJ_eq, gJ_ne, gL_sI, gI_sL, gI_sB, gI_sJ, gL_sB, gL_sJ, gB_sI, gB_sL, gB_sJ, gJ_sI, gJ_sL, gJ_sB]; exact E 1 (by omega)
    · simp -implicitDefEqProofs (disch := decide) only [gL_eq, gL_ne, gI_eq, gI_ne, gB_eq, gB_ne, gJ_eq, gJ_ne, gL_sI, gI_sL, gI_sB, gI_sJ, gL_sB, gL_sJ, gB_sI, gB_sL, gB_sJ, gJ_sI, gJ_sL, gJ_sB]; exact E 2 (by omega)
theorem keep_loop {M0 : Mem} {j : Nat} {p1 p2 p3 : Int64} (hj : j < 8) (hk : kn M0 j = 8) : ∀ r i M, i + r = 8 * j + 8 → 8 * j ≤ i → i ≤ 8 * j + 7 → SHp M0 M j i → KP M0 (f_X6_keep_L21 j p1 p2 p3 r i M) j 8 p1 p2 p3 := by
  intro r
  induction r with
  | zero => intro i M h1 h2 h3; omega
  | succ r ih =>
    intro i M h1 h2 h3 hS
    rw [f_X6_keep_L21]
    by_cases hc : nI i < nI (8 * j + 8 - 1)
    · have hc' : i < 8 * j + 8 - 1 := nI_lt8 hc (by omega) (by omega)
      rw [if_pos hc]
      simp -implicitDefEqProofs (disch := decide) only [bnd_e, bnd2_e]
      exact ih (i + 1) _ (by omega) (by omega) (by omega) (SH_step h2 hS)
    · have e : i = 8 * j + 7 := by
        rcases Nat.lt_or_ge i (8 * j + 8 - 1) with q | q
        · exact absurd (nI_lt q (by omega)) hc
        · omega
      rw [if_neg hc]
      obtain ⟨a1, a2, a3, a4⟩ := hS
      have hkM : kn M j = 8 := by rw [kn, a3, ← kn, hk]
      have k7 : kn (sB M 5 (upd (gB M 5) j (nI (kn M j - 1)))) j = 7 := by rw [hkM]; exact kn_at (by omega) (by rw [gB_eq, upd_eq])
      have H := keep_end (M0 := M0) (M1 := sB M 5 (upd (gB M 5) j (nI (kn M j - 1)))) (j := j) (n' := 8) (p1 := p1) (p2 := p2) (p3 := p3) (by omega) (by omega)
        (fun k => by simp -implicitDefEqProofs (disch := decide) only [gL_eq, gL_ne, gI_eq, gI_ne, gB_eq, gB_ne, gJ_eq, gJ_ne, gL_sI, gI_sL, gI_sB, gI_sJ, gL_sB, gL_sJ, gB_sI, gB_sL, gB_sJ, gJ_sI, gJ_sL, gJ_sB]; exact a1 k) (fun k => by simp -implicitDefEqProofs (disch := decide) only [gL_eq, gL_ne, gI_eq, gI_ne, gB_eq, gB_ne, gJ_eq, gJ_ne, gL_sI, gI_sL, gI_sB, gI_sJ, gL_sB, gL_sJ, gB_sI, gB_sL, gB_sJ, gJ_sI, gJ_sL, gJ_sB]; exact a2 k) (fun a ha => by rw [gB_ne ha]; exact a3 a) (fun k hk9 => by rw [gB_eq, upd_ne hk9, a3]) k7
        (fun a ha t => by
          rw [gJ_sB, a4 a ha, e]
          by_cases c : 8 * j ≤ t ∧ t < 8 * j + 7
          · rw [if_pos c, if_pos ⟨hk, c⟩]
          · rw [if_neg c, if_neg (fun q => c q.2)])
      have kz : ∀ f1 f2 f3 : Nat → Int64, kn (sJ (sJ (sJ (sB M 5 (upd (gB M 5) j (nI (kn M j - 1)))) 0 f1) 1 f2) 2 f3) j = 7 := fun f1 f2 f3 => by rw [kn, gB_sJ, gB_sJ, gB_sJ, ← kn, k7]
      simp -implicitDefEqProofs (disch := decide) only [bnd_e, bnd2_e, k7, kz]
      simp -implicitDefEqProofs (disch := decide) only [gL_eq, gL_ne, gI_eq, gI_ne, gB_eq, gB_ne, gJ_eq, gJ_ne, gL_sI, gI_sL, gI_sB, gI_sJ, gL_sB, gL_sJ, gB_sI, gB_sL, gB_sJ, gJ_sI, gJ_sL, gJ_sB] at H ⊢
      exact H
theorem keep_spec {M : Mem} {j : Nat} {p1 p2 p3 : Int64} (hj : j < 8) (hk : kn M j ≤ 8) : KP M (f_X6_keep M j p1 p2 p3) j (if kn M j = 8 then 8 else kn M j + 1) p1 p2 p3 := by
  rw [f_X6_keep]
  by_cases h8 : kn M j = 8
  · rw [if_pos h8, if_pos (by rw [h8]; rfl)]
    exact keep_loop hj h8 _ _ _ (by omega) (by omega) (by omega) ⟨fun _ => rfl, fun _ => rfl, fun _ => rfl, fun a _ t => by rw [if_neg (by omega)]⟩
  · rw [if_neg h8, if_neg (fun q => h8 ((nI_8 (by omega)).mp q))]
    have H := keep_end (M0 := M) (M1 := M) (j := j) (n' := kn M j + 1) (p1 := p1) (p2 := p2) (p3 := p3) (by omega) (by omega) (fun _ => rfl) (fun _ => rfl) (fun _ _ => rfl) (fun _ _ => rfl) (by omega)
      (fun a _ t => by rw [if_neg (fun q => h8 q.1)])
    have kz : ∀ f1 f2 f3 : Nat → Int64, kn (sJ (sJ (sJ M 0 f1) 1 f2) 2 f3) j = kn M j := fun f1 f2 f3 => by rw [kn, gB_sJ, gB_sJ, gB_sJ, ← kn]
    rw [Nat.add_sub_cancel] at H
    simp -implicitDefEqProofs (disch := decide) only [bnd_e, bnd2_e, kz]
    simp -implicitDefEqProofs (disch := decide) only [gL_eq, gL_ne, gI_eq, gI_ne, gB_eq, gB_ne, gJ_eq, gJ_ne, gL_sI, gI_sL, gI_sB, gI_sJ, gL_sB, gL_sJ, gB_sI, gB_sL, gB_sJ, gJ_sI, gJ_sL, gJ_sB] at H ⊢
    exact H
/-- NI with one sample more -/
theorem NI_keep {M M' : Mem} {j n' : Nat} {p1 p2 p3 : Int64} (n : NI M) (w : WFm M) (hj : j < 8) (hn : n' = if kn M j = 8 then 8 else kn M j + 1) (h : KP M M' j n' p1 p2 p3)
    (hs : okN (dev M) (nowI M) (picI M / 1000000) p1.toInt p2.toInt p3.toInt) : NI M' := by
  obtain ⟨h1, h2, h3, h4, h5, h6⟩ := h
  have hk8 := (WFk w hj).1
  have hn8 : 0 < n' ∧ n' ≤ 8 := by rw [hn]; split <;> omega
  have e0 : nowI M' = nowI M := by unfold nowI; rw [h2]
  have e1 : picI M' = picI M := by unfold picI; rw [h2]
  have e2 : dev M' = dev M := by unfold dev; rw [e0, e1]
  refine ⟨?_, fun k hk => ?_⟩
  · have a := n.1
    unfold okG at a ⊢
    rw [e0, e2, h1, h1]
    exact a
  · have hk' : k < sn M := by rw [sn, h1, ← sn] at hk; exact hk
    have hk88 : k < 8 := Nat.lt_of_lt_of_le hk' (WFs w).1
    have a := n.2 k hk'
    unfold okV at a ⊢
    rw [h3 2 (by decide), h3 3 (by decide), h3 4 (by decide), e0, e1, e2]
    refine ⟨a.1, a.2.1, a.2.2.1, fun t ht => ?_⟩
    by_cases e : k = j
    · subst e
      rw [kn_at (by omega) h5] at ht
      rw [h6 0 (by omega), h6 1 (by omega), h6 2 (by omega)]
      by_cases c : 8 * k + t = 8 * k + (n' - 1)
      · rw [if_pos c, if_pos c, if_pos c]; exact hs
      · rw [if_neg c, if_neg c, if_neg c]
        by_cases c2 : kn M k = 8
        · rw [if_pos ⟨c2, by omega, by rw [if_pos c2] at hn; omega⟩, if_pos ⟨c2, by omega, by rw [if_pos c2] at hn; omega⟩, if_pos ⟨c2, by omega, by rw [if_pos c2] at hn; omega⟩]
          rw [if_pos c2] at hn
          exact a.2.2.2 (t + 1) (by omega)
        · rw [if_neg (fun q => c2 q.1), if_neg (fun q => c2 q.1), if_neg (fun q => c2 q.1)]
          rw [if_neg c2] at hn
          exact a.2.2.2 t (by omega)
    · have ekn : kn M' k = kn M k := by rw [kn, h4 k e, ← kn]
      rw [ekn] at ht
      have hkk := (WFk w hk88).1
      have o1 : ¬ 8 * k + t = 8 * j + (n' - 1) := by omega
      have o2 : ¬ (kn M j = 8 ∧ 8 * j ≤ 8 * k + t ∧ 8 * k + t < 8 * j + 7) := by omega
      rw [h6 0 (by omega), h6 1 (by omega), h6 2 (by omega), if_neg o1, if_neg o1, if_neg o1, if_neg o2, if_neg o2, if_neg o2]
      exact a.2.2.2 t ht
theorem smp_num {a o p b er P0 P3 e : Int} (hP : P3 = P0 + 1000000 * (o + p + b) + e) (he1 : -(1300 * (o + p + b)) ≤ e) (he2 : e ≤ 1300 * (o + p + b)) (ho : 0 ≤ o ∧ o ≤ 500000) (hp : 0 ≤ p ∧ p ≤ 100000) (hb : 0 ≤ b ∧ b ≤ 500000) (her : -1000000 ≤ er ∧ er ≤ 1000000) (ha : 0 ≤ a) (hm : a + o + p + b ≤ 1000000000000) (hD1 : -1000000000000000 - 1300 * a ≤ P0 - a * 1000000) (hD2 : P0 - a * 1000000 ≤ 2000000000000000 + 1300 * a) {dd : Int} (hdd : dd = if P3 / 1000000 - P0 / 1000000 - p < 0 then 0 else P3 / 1000000 - P0 / 1000000 - p) :
    okN (P3 - (a + o + p + b) * 1000000) (a + o + p + b) (P3 / 1000000) (((a + o + er - P0 / 1000000) + (a + o + p + er - P3 / 1000000)) / 2) dd (P3 / 1000000) := by
  have hd : 0 ≤ dd ∧ dd ≤ 4000000 := by
    rw [hdd]
    split <;> omega
  clear hdd
  refine ⟨by omega, by omega, hd.1, hd.2, by omega, Int.le_refl _⟩
