/-! a server's samples in the class (newest first, its best by index) and in the reference (oldest first, blocks of eight) -/
theorem get_n {M : Mem} {r b : Nat} (hb : b < 8) : f_X2_get M r (nI b) = gJ M r b := by
  rw [f_X2_get, if_neg, if_pos, nI_clamp (by omega)]
  · rw [i_lt, nI_toInt (by omega), show (8 : Int32).toInt = 8 by decide]; omega
  · rw [i_lt, nI_toInt (by omega), show (0 : Int32).toInt = 0 by decide]; omega
theorem put_n {M : Mem} {r b : Nat} {v : Int64} (hb : b < 8) : f_X2_put M r (nI b) v = sJ M r (vp_updL (gJ M r) b v) := by
  rw [f_X2_put, if_neg, if_pos, bnd_e, nI_clamp (by omega)]
  · rw [i_lt, nI_toInt (by omega), show (8 : Int32).toInt = 8 by decide]; omega
  · rw [i_lt, nI_toInt (by omega), show (0 : Int32).toInt = 0 by decide]; omega
theorem sJ_sJ {M : Mem} {i : Nat} {f g : Nat → Int64} : sJ (sJ M i f) i g = sJ M i g := by
  refine congrArg (fun z => (M.1, M.2.1, M.2.2.1, z)) ?_
  funext b
  by_cases e : b = i
  · simp only [e, if_true]
  · simp only [sJ, e, if_false]
def psh (f : Nat → Int64) (v : Int64) : Nat → Int64 := fun t => if t = 0 then v else if t < 8 then f (t - 1) else f t
theorem push_e {M : Mem} {r : Nat} {v : Int64} : f_X2_push M r v = sJ M r (psh (gJ M r) v) := by
  have c7 : (7 : Int32) = nI 7 := by decide
  have c6 : (6 : Int32) = nI 6 := by decide
  have c5 : (5 : Int32) = nI 5 := by decide
  have c4 : (4 : Int32) = nI 4 := by decide
  have c3 : (3 : Int32) = nI 3 := by decide
  have c2 : (2 : Int32) = nI 2 := by decide
  have c1 : (1 : Int32) = nI 1 := by decide
  have c0 : (0 : Int32) = nI 0 := by decide
  have d7 : (7 : Int32) - 1 = nI 6 := by decide
  have d6 : (6 : Int32) - 1 = nI 5 := by decide
  have d5 : (5 : Int32) - 1 = nI 4 := by decide
  have d4 : (4 : Int32) - 1 = nI 3 := by decide
  have d3 : (3 : Int32) - 1 = nI 2 := by decide
  have d2 : (2 : Int32) - 1 = nI 1 := by decide
  have d1 : (1 : Int32) - 1 = nI 0 := by decide
  rw [f_X2_push]
  rw [d7, d6, d5, d4, d3, d2, d1, c7, c6, c5, c4, c3, c2, c1, c0]
  simp -implicitDefEqProofs (disch := decide) only [bnd_e, bnd2_e, get_n, put_n, gJ_eq, sJ_sJ]
  refine congrArg (sJ M r) ?_
  funext t
  unfold psh
  by_cases t0 : t = 0
  · subst t0; simp [vp_updL]
  · by_cases t8 : t < 8
    · rcases (show t = 1 ∨ t = 2 ∨ t = 3 ∨ t = 4 ∨ t = 5 ∨ t = 6 ∨ t = 7 by omega) with rfl | rfl | rfl | rfl | rfl | rfl | rfl <;> simp [vp_updL]
    · rw [if_neg t0, if_neg t8]
      rw [updL_ne t0, updL_ne (by omega), updL_ne (by omega), updL_ne (by omega), updL_ne (by omega), updL_ne (by omega), updL_ne (by omega), updL_ne (by omega)]
/-! sums, from either end -/
def sm (f : Nat → Int64) : Nat → Int64
  | 0 => 0
  | n + 1 => sm f n + f n
theorem sm_congr {f g : Nat → Int64} : ∀ n, (∀ t, t < n → f t = g t) → sm f n = sm g n
  | 0, _ => rfl
  | n + 1, h => by rw [sm, sm, sm_congr n (fun t ht => h t (by omega)), h n (by omega)]
theorem sm_front {f : Nat → Int64} : ∀ n, sm f (n + 1) = f 0 + sm (fun t => f (t + 1)) n
  | 0 => by rw [sm, sm, sm, Int64.zero_add, Int64.add_zero]
  | n + 1 => by rw [sm, sm_front n, sm, Int64.add_assoc]
theorem sm_rev : ∀ (n : Nat) (f : Nat → Int64), sm (fun s => f (n - 1 - s)) n = sm f n
  | 0, _ => rfl
  | n + 1, f => by
    rw [sm_front n (f := f), ← sm_rev n (fun t => f (t + 1)), sm, Int64.add_comm]
    congr 1
    · exact congrArg f (by omega)
    · exact sm_congr n (fun t ht => congrArg f (by omega))
def ab (v : Int64) : Int64 := if 0 < v then v else -v
theorem ab_size {v : Int64} : f_X6_size v = ab v := by
  unfold ab f_X6_size
  have e0 : (0 : Int64).toInt = 0 := by decide
  by_cases c : v < 0
  · have c' := l_lt.mp c
    rw [if_pos c, if_neg (fun q => by have := l_lt.mp q; omega)]
  · rw [if_neg c]
    by_cases c2 : (0 : Int64) < v
    · rw [if_pos c2]
    · rw [if_neg c2]
      have : v = 0 := l_eq (by
        have a : ¬ v.toInt < (0 : Int64).toInt := fun q => c (l_lt.mpr q)
        have b : ¬ (0 : Int64).toInt < v.toInt := fun q => c2 (l_lt.mpr q)
        omega)
      rw [this]; decide
/-- the relation of one server -/
def VS (Mc Mm : Mem) (k : Nat) : Prop := gI Mc (13 + 4 * k) = gB Mm 1 k ∧ gI Mc (14 + 4 * k) = gB Mm 2 k ∧ gL Mc (6 + 2 * k) = (gB Mm 3 k).toInt64 ∧ gL Mc (7 + 2 * k) = (gB Mm 4 k).toInt64 ∧ gI Mc (11 + 4 * k) = nI (kn Mm k) ∧
  (∀ t, t < kn Mm k → gJ Mc (4 + 3 * k) t = gJ Mm 0 (8 * k + (kn Mm k - 1 - t)) ∧ gJ Mc (5 + 3 * k) t = gJ Mm 1 (8 * k + (kn Mm k - 1 - t)) ∧ gJ Mc (6 + 3 * k) t = gJ Mm 2 (8 * k + (kn Mm k - 1 - t))) ∧
  (0 < kn Mm k → gI Mc (12 + 4 * k) = nI (8 * k + kn Mm k - 1 - bx Mm k))
theorem bx_at {M : Mem} {k : Nat} (hk : k < 8) (h8 : kn M k ≤ 8) (h0 : 0 < kn M k) : 8 * k ≤ bx M k ∧ bx M k < 8 * k + kn M k ∧ 8 * k + kn M k - 1 - bx M k < kn M k ∧ 8 * k + (kn M k - 1 - (8 * k + kn M k - 1 - bx M k)) = bx M k := by
  have hB := (best_spec hk h8).2.2 h0
  have := hB.1
  omega
theorem bo_eq {Mc Mm : Mem} {k : Nat} (v : VS Mc Mm k) (hk : k < 8) (h8 : kn Mm k ≤ 8) (h0 : 0 < kn Mm k) : f_X4_bestOffset Mc k = gJ Mm 0 (bx Mm k) := by
  obtain ⟨b1, b2, b3, b4⟩ := bx_at hk h8 h0
  obtain ⟨-, -, -, -, -, vt, vb⟩ := v
  rw [f_X4_bestOffset, bnd_e, vb h0, get_n (by omega), (vt _ b3).1, b4]
theorem bd_eq {Mc Mm : Mem} {k : Nat} (v : VS Mc Mm k) (hk : k < 8) (h8 : kn Mm k ≤ 8) (h0 : 0 < kn Mm k) : f_X4_bestDelay Mc k = gJ Mm 1 (bx Mm k) := by
  obtain ⟨b1, b2, b3, b4⟩ := bx_at hk h8 h0
  obtain ⟨-, -, -, -, -, vt, vb⟩ := v
  rw [f_X4_bestDelay, bnd_e, vb h0, get_n (by omega), (vt _ b3).2.1, b4]
/-! jitter -/
theorem jc_loop {M : Mem} {k n : Nat} {m : Int64} (hn : n ≤ 8) (hg : gI M (11 + 4 * k) = nI n) : ∀ r i y, i + r = n + 1 → i ≤ n → y = sm (fun t => ab (gJ M (4 + 3 * k) t - m)) i → f_X4_offsetJitter_L27 M k m r i y = sm (fun t => ab (gJ M (4 + 3 * k) t - m)) n / (nI n - 1).toInt64 := by
  intro r
  induction r with
  | zero => intro i y h1 h2; omega
  | succ r ih =>
    intro i y h1 h2 hy
    rw [f_X4_offsetJitter_L27, hg]
    by_cases hc : nI i < nI n
    · have hc' : i < n := nI_lt8 hc (by omega) (by omega)
      rw [if_pos hc, bnd_e, bnd_e, bnd_e, get_n (by omega)]
      exact ih (i + 1) _ (by omega) (by omega) (by rw [sm, hy, ab])
    · have e : i = n := by
        rcases Nat.lt_or_ge i n with q | q
        · exact absurd (nI_lt q (by omega)) hc
        · omega
      rw [if_neg hc, hy, e]
theorem jm_loop {M : Mem} {k : Nat} (hk : k < 8) (h8 : kn M k ≤ 8) : ∀ r i y, i + r = 8 * k + kn M k + 1 → 8 * k ≤ i → i ≤ 8 * k + kn M k → y = sm (fun s => ab (gJ M 0 (8 * k + s) - gJ M 0 (bx M k))) (i - 8 * k) → f_X6_jitterOf_L8 M k r i y = if nI (kn M k) = 1 then 0 else sm (fun s => ab (gJ M 0 (8 * k + s) - gJ M 0 (bx M k))) (kn M k) / ((nI (kn M k)).toInt64 - 1) := by
  intro r
  induction r with
  | zero => intro i y h1 h2 h3; omega
  | succ r ih =>
    intro i y h1 h2 h3 hy
    rw [f_X6_jitterOf_L8]
    by_cases hc : nI i < nI (8 * k + kn M k)
    · have hc' : i < 8 * k + kn M k := nI_lt8 hc (by omega) (by omega)
      have eb : (f_X6_best M k).toNatClampNeg = bx M k := by rw [bx]
      rw [if_pos hc, bnd_e, bnd_e, bnd_e, eb, ab_size]
      refine ih (i + 1) _ (by omega) (by omega) (by omega) ?_
      rw [show i + 1 - 8 * k = (i - 8 * k) + 1 by omega, sm, hy, show 8 * k + (i - 8 * k) = i by omega]
    · have e : i = 8 * k + kn M k := by
        rcases Nat.lt_or_ge i (8 * k + kn M k) with q | q
        · exact absurd (nI_lt q (by omega)) hc
        · omega
      rw [if_neg hc, hy, e, Nat.add_sub_cancel_left]
theorem n1_64 {n : Nat} (h : 1 ≤ n) (h8 : n ≤ 8) : (nI n - 1).toInt64 = (nI n).toInt64 - 1 := by
  apply l_eq
  rw [kn1_i (by omega), Int32.toInt_toInt64]
  have e : nI n - 1 = nI (n - 1) := pk_sub (a := n) (b := 1) h
  rw [e, nI_toInt (by omega)]
  omega
theorem ji_eq {Mc Mm : Mem} {k : Nat} (v : VS Mc Mm k) (hk : k < 8) (h8 : kn Mm k ≤ 8) (h0 : 0 < kn Mm k) : f_X4_offsetJitter Mc k = f_X6_jitterOf Mm k := by
  obtain ⟨b1, b2, b3, b4⟩ := bx_at hk h8 h0
  have hb := bo_eq v hk h8 h0
  obtain ⟨-, -, -, -, vc, vt, vb⟩ := v
  have em : f_X6_jitterOf Mm k = if nI (kn Mm k) = 1 then 0 else sm (fun s => ab (gJ Mm 0 (8 * k + s) - gJ Mm 0 (bx Mm k))) (kn Mm k) / ((nI (kn Mm k)).toInt64 - 1) := by
    rw [f_X6_jitterOf]
    exact jm_loop hk h8 _ _ _ (by omega) (by omega) (by omega) (by rw [Nat.sub_self]; rfl)
  have h2 : nI (kn Mm k) < 2 ↔ kn Mm k < 2 := nI_ltI (b := 2) (by omega) (by decide)
  rw [em, f_X4_offsetJitter, vc]
  by_cases c1 : kn Mm k = 1
  · rw [if_pos (h2.mpr (by omega)), if_pos (by rw [c1]; rfl)]
  · rw [if_neg (fun q => by have := h2.mp q; omega), if_neg (show ¬ nI (kn Mm k) = 1 from fun q => c1 ((nI_eq (b := 1) (by omega) (by decide)).mp q)), bnd_e]
    have hm : f_X2_get Mc (4 + 3 * k) (gI Mc (12 + 4 * k)) = gJ Mm 0 (bx Mm k) := by rw [← hb, f_X4_bestOffset, bnd_e]
    rw [hm, nI_clamp (by omega), jc_loop (n := kn Mm k) (m := gJ Mm 0 (bx Mm k)) h8 vc (kn Mm k + 1 - 0) 0 0 (by omega) (by omega) rfl, n1_64 (by omega) h8]
    congr 1
    rw [← sm_rev (kn Mm k) (fun t => ab (gJ Mc (4 + 3 * k) t - gJ Mm 0 (bx Mm k)))]
    refine sm_congr _ (fun t ht => ?_)
    rw [(vt (kn Mm k - 1 - t) (by omega)).1, show 8 * k + (kn Mm k - 1 - (kn Mm k - 1 - t)) = 8 * k + t by omega]
/-! distance -/
theorem half_eq {x : Int32} (h : 0 ≤ x.toInt) : x.toInt64 / 2 = (x / 2).toInt64 := by
  apply l_eq
  rw [l_quo (by rw [Int32.toInt_toInt64]; exact h) two_pos, Int32.toInt_toInt64, Int32.toInt_toInt64, Int32.toInt_div_of_ne_right _ _ (by decide), show (2 : Int32).toInt = 2 by decide, show (2 : Int64).toInt = 2 by decide, Int.tdiv_eq_ediv_of_nonneg h]
theorem di_eq {Mc Mm : Mem} {k : Nat} (v : VS Mc Mm k) (hk : k < 8) (h8 : kn Mm k ≤ 8) (h0 : 0 < kn Mm k) (hr : 0 ≤ (gB Mm 3 k).toInt) : f_X4_distanceAt Mc k (f_X6_reading Mm) = f_X6_distanceOf Mm k := by
  obtain ⟨b1, b2, b3, b4⟩ := bx_at hk h8 h0
  have hj := ji_eq v hk h8 h0
  have hd := bd_eq v hk h8 h0
  obtain ⟨-, -, v6, v7, vc, vt, vb⟩ := v
  rw [dist_e, f_X4_distanceAt]
  simp -implicitDefEqProofs (disch := decide) only [bnd_e, bnd2_e]
  rw [hd, hj, vb h0, get_n (by omega), (vt _ b3).2.2, b4, fl_mil, v6, v7, half_eq hr]
/-! a sample more -/
theorem ld_loop {M : Mem} {k n : Nat} (hn : n ≤ 8) (h0 : 0 < n) (hg : gI M (11 + 4 * k) = nI n) : ∀ r i b, i + r = n + 1 → 1 ≤ i → i ≤ n → b < i → (∀ t, t < i → (gJ M (5 + 3 * k) b).toInt ≤ (gJ M (5 + 3 * k) t).toInt) → (∀ t, t < b → (gJ M (5 + 3 * k) b).toInt < (gJ M (5 + 3 * k) t).toInt) →
    ∃ c, c < n ∧ f_X4_leastDelay_L4 M k r i (nI b) = nI c ∧ (∀ t, t < n → (gJ M (5 + 3 * k) c).toInt ≤ (gJ M (5 + 3 * k) t).toInt) ∧ ∀ t, t < c → (gJ M (5 + 3 * k) c).toInt < (gJ M (5 + 3 * k) t).toInt := by
  intro r
  induction r with
  | zero => intro i b h1 h2 h3; omega
  | succ r ih =>
    intro i b h1 h2 h3 hb hA hB
    rw [f_X4_leastDelay_L4, hg]
    by_cases hc : nI i < nI n
    · have hc' : i < n := nI_lt8 hc (by omega) (by omega)
      rw [if_pos hc, bnd_e, bnd_e, get_n (by omega), get_n (by omega)]
      by_cases hf : gJ M (5 + 3 * k) i < gJ M (5 + 3 * k) b
      · rw [if_pos hf]
        rw [l_lt] at hf
        refine ih (i + 1) i (by omega) (by omega) (by omega) (by omega) (fun t ht => ?_) (fun t ht => ?_)
        · by_cases e : t = i
          · rw [e]; exact Int.le_refl _
          · have := hA t (by omega); omega
        · have := hA t ht; omega
      · rw [if_neg hf]
        rw [l_lt] at hf
        refine ih (i + 1) b (by omega) (by omega) (by omega) (by omega) (fun t ht => ?_) hB
        by_cases e : t = i
        · rw [e]; omega
        · exact hA t (by omega)
    · have e : i = n := by
        rcases Nat.lt_or_ge i n with q | q
        · exact absurd (nI_lt q (by omega)) hc
        · omega
      rw [if_neg hc]
      subst e
      exact ⟨b, hb, rfl, hA, hB⟩
theorem ld_spec {M : Mem} {k n : Nat} (hn : n ≤ 8) (h0 : 0 < n) (hg : gI M (11 + 4 * k) = nI n) : ∃ c, c < n ∧ f_X4_leastDelay M k = nI c ∧ (∀ t, t < n → (gJ M (5 + 3 * k) c).toInt ≤ (gJ M (5 + 3 * k) t).toInt) ∧ ∀ t, t < c → (gJ M (5 + 3 * k) c).toInt < (gJ M (5 + 3 * k) t).toInt := by
  rw [f_X4_leastDelay, hg, nI_clamp (by omega)]
  have e : max n 1 = n := by omega
  rw [e]
  exact ld_loop hn h0 hg _ 1 0 (by omega) (by omega) (by omega) (by omega) (fun t ht => by rw [show t = 0 by omega]; exact Int.le_refl _) (fun t ht => absurd ht (Nat.not_lt_zero t))
def kc3 (M : Mem) (k : Nat) (o d t : Int64) : Mem := sJ (sJ (sJ M (4 + 3 * k) (psh (gJ M (4 + 3 * k)) o)) (5 + 3 * k) (psh (gJ M (5 + 3 * k)) d)) (6 + 3 * k) (psh (gJ M (6 + 3 * k)) t)
theorem min_n {n : Nat} (h : n ≤ 8) : (if (8 : Int32) < nI n + 1 then (8 : Int32) else nI n + 1) = nI (if n = 8 then 8 else n + 1) := by
  rw [nI_1]
  have h9 : (8 : Int32) < nI (n + 1) ↔ 8 < n + 1 := nI_ltI (a := 8) (by decide) (by omega)
  by_cases e : n = 8
  · rw [if_pos (h9.mpr (by omega)), if_pos e]; rfl
  · rw [if_neg (fun q => by have := h9.mp q; omega), if_neg e]
theorem keep5 {M : Mem} {k n : Nat} {o d t : Int64} (hn : n ≤ 8) (hg : gI M (11 + 4 * k) = nI n) : f_X4_keep M k o d t = sI (sI (kc3 M k o d t) (11 + 4 * k) (nI (if n = 8 then 8 else n + 1))) (12 + 4 * k) (f_X4_leastDelay (sI (kc3 M k o d t) (11 + 4 * k) (nI (if n = 8 then 8 else n + 1))) k) := by
  have e1 : f_X2_push (f_X2_push (f_X2_push M (4 + 3 * k) o) (5 + 3 * k) d) (6 + 3 * k) t = kc3 M k o d t := by
    rw [push_e, push_e, push_e]
    unfold kc3
    rw [gJ_ne (show 5 + 3 * k ≠ 4 + 3 * k by omega), gJ_ne (show 6 + 3 * k ≠ 5 + 3 * k by omega), gJ_ne (show 6 + 3 * k ≠ 4 + 3 * k by omega)]
  have e2 : gI (kc3 M k o d t) (11 + 4 * k) = nI n := by unfold kc3; rw [gI_sJ, gI_sJ, gI_sJ, hg]
  simp -implicitDefEqProofs (disch := decide) only [f_X4_keep, bnd_e, bnd2_e, e1]
  rw [e2, min_n hn]
theorem psh_0 {f : Nat → Int64} {v : Int64} : psh f v 0 = v := by rw [psh, if_pos rfl]
theorem psh_s {f : Nat → Int64} {v : Int64} {t : Nat} (h0 : 0 < t) (h8 : t < 8) : psh f v t = f (t - 1) := by rw [psh, if_neg (by omega), if_pos h8]
/-- both keep the sample: the relation of that server stays, the others are untouched -/
theorem VS_keep {Mc Mm M' : Mem} {j : Nat} {o d t : Int64} (v : VS Mc Mm j) (hj : j < 8) (h8 : kn Mm j ≤ 8) (h : KP Mm M' j (if kn Mm j = 8 then 8 else kn Mm j + 1) o d t) : VS (f_X4_keep Mc j o d t) M' j := by
  obtain ⟨v1, v2, v6, v7, vc, vt, vb⟩ := v
  obtain ⟨k1, k2, k3, k4, k5, k6⟩ := h
  have hn : ∃ n', n' = (if kn Mm j = 8 then 8 else kn Mm j + 1) ∧ 0 < n' ∧ n' ≤ 8 := ⟨_, rfl, by split <;> omega, by split <;> omega⟩
  obtain ⟨n', en, n0, n8⟩ := hn
  rw [← en] at k5 k6
  have ekn : kn M' j = n' := kn_at (by omega) k5
  have hg : gI (sI (kc3 Mc j o d t) (11 + 4 * j) (nI n')) (11 + 4 * j) = nI n' := gI_eq
  obtain ⟨c, c1, c2, c3, c4⟩ := ld_spec n8 n0 hg
  have hk5 := keep5 (M := Mc) (k := j) (o := o) (d := d) (t := t) h8 vc
  rw [← en, c2] at hk5
  have row : ∀ a, a < 3 → ∀ s, s < n' → psh (gJ Mc (4 + 3 * j + a)) (nw o d t a) s = gJ M' a (8 * j + (n' - 1 - s)) := by
    intro a ha s hs
    rw [k6 a ha]
    by_cases s0 : s = 0
    · rw [s0, psh_0, if_pos (by omega)]
    · rw [psh_s (by omega) (by omega), if_neg (by omega)]
      have vo : gJ Mc (4 + 3 * j + a) (s - 1) = gJ Mm a (8 * j + (kn Mm j - 1 - (s - 1))) := by
        have hs9 : s - 1 < kn Mm j := by rw [en] at hs; split at hs <;> omega
        have := vt (s - 1) hs9
        rcases lt3 ha with rfl | rfl | rfl
        · exact this.1
        · rw [show 4 + 3 * j + 1 = 5 + 3 * j by omega]; exact this.2.1
        · rw [show 4 + 3 * j + 2 = 6 + 3 * j by omega]; exact this.2.2
      rw [vo]
      by_cases e8 : kn Mm j = 8
      · rw [if_pos e8] at en
        rw [if_pos ⟨e8, by omega, by omega⟩]
        exact congrArg (gJ Mm a) (by omega)
      · rw [if_neg e8] at en
        rw [if_neg (fun q => e8 q.1)]
        exact congrArg (gJ Mm a) (by omega)
  have G : ∀ i, i ≠ 11 + 4 * j → i ≠ 12 + 4 * j → gI (f_X4_keep Mc j o d t) i = gI Mc i := fun i h1 h2 => by
    rw [hk5, gI_ne h2, gI_ne h1]; unfold kc3; rw [gI_sJ, gI_sJ, gI_sJ]
  have GL : ∀ i, gL (f_X4_keep Mc j o d t) i = gL Mc i := fun i => by
    rw [hk5, gL_sI, gL_sI]; unfold kc3; rw [gL_sJ, gL_sJ, gL_sJ]
  have J0 : gJ (f_X4_keep Mc j o d t) (4 + 3 * j) = psh (gJ Mc (4 + 3 * j)) o := by
    rw [hk5, gJ_sI, gJ_sI]; unfold kc3; rw [gJ_ne (by omega), gJ_ne (by omega), gJ_eq]
  have J1 : gJ (f_X4_keep Mc j o d t) (5 + 3 * j) = psh (gJ Mc (5 + 3 * j)) d := by
    rw [hk5, gJ_sI, gJ_sI]; unfold kc3; rw [gJ_ne (by omega), gJ_eq]
  have J2 : gJ (f_X4_keep Mc j o d t) (6 + 3 * j) = psh (gJ Mc (6 + 3 * j)) t := by
    rw [hk5, gJ_sI, gJ_sI]; unfold kc3; rw [gJ_eq]
  refine ⟨?_, ?_, ?_, ?_, ?_, fun s hs => ?_, fun _ => ?_⟩
  · rw [G _ (by omega) (by omega), k3 1 (by decide)]; exact v1
  · rw [G _ (by omega) (by omega), k3 2 (by decide)]; exact v2
  · rw [GL, k3 3 (by decide)]; exact v6
  · rw [GL, k3 4 (by decide)]; exact v7
  · rw [hk5, gI_ne (by omega), gI_eq, ekn]
  · rw [ekn] at hs ⊢
    rw [J0, J1, J2]
    have r0 := row 0 (by omega) s hs
    have r1 := row 1 (by omega) s hs
    have r2 := row 2 (by omega) s hs
    rw [show 4 + 3 * j + 1 = 5 + 3 * j by omega] at r1
    rw [show 4 + 3 * j + 2 = 6 + 3 * j by omega] at r2
    exact ⟨r0, r1, r2⟩
  · rw [hk5, gI_eq]
    have hd : gJ (sI (kc3 Mc j o d t) (11 + 4 * j) (nI n')) (5 + 3 * j) = psh (gJ Mc (5 + 3 * j)) d := by
      rw [gJ_sI]; unfold kc3; rw [gJ_ne (by omega), gJ_eq]
    rw [hd] at c3 c4
    have r1 : ∀ s, s < n' → psh (gJ Mc (5 + 3 * j)) d s = gJ M' 1 (8 * j + (n' - 1 - s)) := fun s hs => by
      have := row 1 (by omega) s hs
      rw [show 4 + 3 * j + 1 = 5 + 3 * j by omega] at this
      exact this
    have hBS : BS M' j (8 * j + (n' - 1 - c)) := by
      refine ⟨⟨by omega, by rw [ekn]; omega⟩, fun s h1 h2 => ?_, fun s h1 h2 => ?_⟩
      · rw [ekn] at h2
        have := c3 (n' - 1 - (s - 8 * j)) (by omega)
        rw [r1 c c1, r1 _ (by omega), show 8 * j + (n' - 1 - (n' - 1 - (s - 8 * j))) = s by omega] at this
        exact this
      · rw [ekn] at h2
        have := c4 (n' - 1 - (s - 8 * j)) (by omega)
        rw [r1 c c1, r1 _ (by omega), show 8 * j + (n' - 1 - (n' - 1 - (s - 8 * j))) = s by omega] at this
        exact this
    have eb : bx M' j = 8 * j + (n' - 1 - c) := BS_one ((best_spec hj (by rw [ekn]; omega)).2.2 (by rw [ekn]; omega)) hBS
    rw [eb, ekn]
    exact congrArg nI (by omega)
