/-! the reference as plain functions: what the class is compared with -/
def f_X5_error (M : Mem)  : Int64 := bnd (f_X1_reading M  ) fun r_1 => (r_1 - gL M (0))
/-! the model's memory in order: servers and kept samples are small numbers, flags are 0 or 1 -/
def sn (M : Mem) : Nat := (gI M 6).toNatClampNeg
def kn (M : Mem) (j : Nat) : Nat := (gB M 5 j).toNatClampNeg
def WFm (M : Mem) : Prop := (sn M ≤ 8 ∧ gI M 6 = nI (sn M)) ∧ (∀ j, j < 8 → kn M j ≤ 8 ∧ gB M 5 j = nI (kn M j)) ∧ (∀ j, j < 8 → gB M 6 j = 0 ∨ gB M 6 j = 1) ∧ (∀ j, j < 8 → gB M 7 j = 0 ∨ gB M 7 j = 1)
theorem WFs {M : Mem} (w : WFm M) : sn M ≤ 8 ∧ gI M 6 = nI (sn M) := w.1
theorem WFk {M : Mem} (w : WFm M) {j : Nat} (h : j < 8) : kn M j ≤ 8 ∧ gB M 5 j = nI (kn M j) := w.2.1 j h
theorem WFm_sI {M : Mem} {i : Nat} {v : Int32} (w : WFm M) (h : i ≠ 6) : WFm (sI M i v) := by
  have e : gI (sI M i v) 6 = gI M 6 := by simp [gI, sI, Ne.symm h]
  refine ⟨?_, w.2⟩
  unfold sn
  rw [e]
  exact w.1
theorem WFm_srv {M : Mem} {v : Int32} (n : Nat) (w : WFm M) (hn : n ≤ 8) (hv : v = nI n) : WFm (sI M 6 v) := by
  have e : gI (sI M 6 v) 6 = nI n := by simp [gI, sI, hv]
  refine ⟨?_, w.2⟩
  unfold sn
  rw [e, nI_clamp (by omega)]
  exact ⟨hn, rfl⟩
theorem WFm_sL {M : Mem} {i : Nat} {v : Int64} (w : WFm M) : WFm (sL M i v) := w
theorem WFm_sJ {M : Mem} {i : Nat} {f : Nat → Int64} (w : WFm M) : WFm (sJ M i f) := w
theorem gB_sB {M : Mem} {a b : Nat} {f : Nat → Int32} : gB (sB M a f) b = if b = a then f else gB M b := rfl
theorem WFm_sB {M : Mem} {a : Nat} {f : Nat → Int32} (w : WFm M) (h : a < 5) : WFm (sB M a f) := by
  have h5 : gB (sB M a f) 5 = gB M 5 := if_neg (by omega)
  have h6 : gB (sB M a f) 6 = gB M 6 := if_neg (by omega)
  have h7 : gB (sB M a f) 7 = gB M 7 := if_neg (by omega)
  refine ⟨w.1, fun j hj => ?_, fun j hj => ?_, fun j hj => ?_⟩
  · unfold kn; rw [h5]; exact w.2.1 j hj
  · rw [h6]; exact w.2.2.1 j hj
  · rw [h7]; exact w.2.2.2 j hj
theorem WFm_k {M : Mem} {i : Nat} {v : Int32} (n : Nat) (w : WFm M) (hn : n ≤ 8) (hv : v = nI n) : WFm (sB M 5 (upd (gB M 5) i v)) := by
  have h5 : gB (sB M 5 (upd (gB M 5) i v)) 5 = upd (gB M 5) i v := rfl
  refine ⟨w.1, fun j hj => ?_, fun j hj => w.2.2.1 j hj, fun j hj => w.2.2.2 j hj⟩
  unfold kn
  rw [h5]
  by_cases e : j = i
  · rw [show upd (gB M 5) i v j = v from if_pos e, hv, nI_clamp (by omega)]; exact ⟨hn, rfl⟩
  · rw [show upd (gB M 5) i v j = gB M 5 j from if_neg e]; exact w.2.1 j hj
theorem WFm_6 {M : Mem} {i : Nat} {v : Int32} (w : WFm M) (hv : v = 0 ∨ v = 1) : WFm (sB M 6 (upd (gB M 6) i v)) := by
  refine ⟨w.1, fun j hj => w.2.1 j hj, fun j hj => ?_, fun j hj => w.2.2.2 j hj⟩
  show upd (gB M 6) i v j = 0 ∨ upd (gB M 6) i v j = 1
  by_cases e : j = i
  · rw [show upd (gB M 6) i v j = v from if_pos e]; exact hv
  · rw [show upd (gB M 6) i v j = gB M 6 j from if_neg e]; exact w.2.2.1 j hj
theorem WFm_7 {M : Mem} {i : Nat} {v : Int32} (w : WFm M) (hv : v = 0 ∨ v = 1) : WFm (sB M 7 (upd (gB M 7) i v)) := by
  refine ⟨w.1, fun j hj => w.2.1 j hj, fun j hj => w.2.2.1 j hj, fun j hj => ?_⟩
  show upd (gB M 7) i v j = 0 ∨ upd (gB M 7) i v j = 1
  by_cases e : j = i
  · rw [show upd (gB M 7) i v j = v from if_pos e]; exact hv
  · rw [show upd (gB M 7) i v j = gB M 7 j from if_neg e]; exact w.2.2.2 j hj
theorem kn_sB {M : Mem} {j n : Nat} {v : Int32} (hn : n < 2 ^ 31) (hv : v = nI n) : kn (sB M 5 (upd (gB M 5) j v)) j = n := by
  show (upd (gB M 5) j v j).toNatClampNeg = n
  rw [show upd (gB M 5) j v j = v from if_pos rfl, hv, nI_clamp hn]
theorem bo_nar {x : Int32} (h : x = 0 ∨ x = 1) : vp_nar .boolean x = x := by rcases h with rfl | rfl <;> rfl
theorem nI_of_vp {x : Int32} {n : Nat} (h : vp_in x n) (hn : n < 2 ^ 31) : x = nI x.toNatClampNeg := by
  obtain ⟨j, hj, e⟩ := vp_in_of h hn
  rw [e, nI_clamp (by omega)]
theorem km_ne {n : Nat} (h : ¬ n = 1) (hn : n < 2 ^ 31) : ¬ (nI n).toInt64 - 1 = 0 := by
  rw [nI_l hn]
  intro e
  by_cases h0 : n = 0
  · subst h0; exact absurd e (by decide)
  · have e2 : lN n - lN 1 = lN (n - 1) := lN_sub (by omega)
    have e3 : lN (n - 1) = lN 0 := e2.symm.trans e
    have := (lN_eq (by omega) (by omega)).mp e3
    omega
theorem sn_sI {M : Mem} {n : Nat} {v : Int32} (hn : n < 2 ^ 31) (hv : v = nI n) : sn (sI M 6 v) = n := by
  show (gI (sI M 6 v) 6).toNatClampNeg = n
  have e : gI (sI M 6 v) 6 = nI n := by simp [gI, sI, hv]
  rw [e, nI_clamp hn]
def cntTo (M : Mem) : Nat → Nat
  | 0 => 0
  | i + 1 => cntTo M i + (if gB M 7 i = 0 then 0 else 1)
def cnt7 (M : Mem) : Nat := cntTo M 8
theorem cntTo_le (M : Mem) : ∀ i, cntTo M i ≤ i
  | 0 => Nat.le_refl 0
  | i + 1 => by
    have h := cntTo_le M i
    show cntTo M i + _ ≤ i + 1
    split <;> omega
theorem cntTo_ex {M : Mem} : ∀ {i : Nat}, 0 < cntTo M i → ∃ j, j < i ∧ ¬ gB M 7 j = 0
  | 0, h => absurd h (Nat.lt_irrefl 0)
  | i + 1, h => by
    by_cases c : gB M 7 i = 0
    · have h2 : 0 < cntTo M i := by
        have : cntTo M (i + 1) = cntTo M i + 0 := by show _ + _ = _; rw [if_pos c]
        omega
      obtain ⟨j, hj, hz⟩ := cntTo_ex h2
      exact ⟨j, by omega, hz⟩
    · exact ⟨i, by omega, c⟩
theorem cntTo_drop {M : Mem} {k : Nat} (hk : ¬ gB M 7 k = 0) : ∀ i, cntTo (sB M 7 (upd (gB M 7) k 0)) i + (if k < i then 1 else 0) = cntTo M i
  | 0 => by rfl
  | i + 1 => by
    have ih := cntTo_drop hk i
    show cntTo _ i + (if upd (gB M 7) k 0 i = 0 then 0 else 1) + _ = cntTo M i + (if gB M 7 i = 0 then 0 else 1)
    by_cases e : i = k
    · subst e
      rw [show upd (gB M 7) i 0 i = 0 from if_pos rfl, if_neg hk, if_pos rfl, if_pos (by omega)]
      rw [if_neg (by omega)] at ih
      omega
    · rw [show upd (gB M 7) k 0 i = gB M 7 i from if_neg e]
      by_cases c : k < i
      · have c2 : k < i + 1 := by omega
        rw [if_pos c] at ih; rw [if_pos c2]; omega
      · have c2 : ¬ k < i + 1 := by omega
        rw [if_neg c] at ih; rw [if_neg c2]; omega
theorem cnt_drop {M : Mem} {k : Nat} (h8 : k < 8) (hk : ¬ gB M 7 k = 0) : cnt7 (sB M 7 (upd (gB M 7) k 0)) + 1 = cnt7 M := by
  have h := cntTo_drop hk 8
  rw [if_pos h8] at h
  exact h
theorem sv_ne {M : Mem} {r : Int32} (h : r = nI (cnt7 M)) (c : 3 < r) : 4 ≤ cnt7 M ∧ ¬ r.toInt64 - 1 = 0 := by
  have h8 : cnt7 M ≤ 8 := cntTo_le M 8
  have h4 : 3 < cnt7 M := by rw [h] at c; exact nI_lt8 (i := 3) c (by decide) (by omega)
  refine ⟨h4, ?_⟩
  rw [h]
  exact km_ne (by omega) (by omega)
theorem cnt_step {M : Mem} {i : Nat} {y : Int32} (h : y = nI (cntTo M i)) (c : gB M 7 i = 0) : y + 0 = nI (cntTo M (i + 1)) := by
  show y + 0 = nI (cntTo M i + (if gB M 7 i = 0 then 0 else 1))
  rw [if_pos c, h]
  exact (nI_add _ 0)
theorem cnt_step1 {M : Mem} {i : Nat} {y : Int32} (h : y = nI (cntTo M i)) (c : ¬ gB M 7 i = 0) : y + 1 = nI (cntTo M (i + 1)) := by
  show y + 1 = nI (cntTo M i + (if gB M 7 i = 0 then 0 else 1))
  rw [if_neg c, h]
  exact nI_1 _
/-! weights -/
def WI (M : Mem) (i : Nat) (y : Int64) : Prop := (0 ≤ y.toInt ∧ y.toInt ≤ 1000000 * (i : Int)) ∧ ((∃ j, j < i ∧ ¬ gB M 7 j = 0) → 0 < y.toInt)
theorem WI_0 {M : Mem} : WI M 0 0 := ⟨⟨by decide, by decide⟩, fun ⟨j, h, _⟩ => absurd h (by omega)⟩
theorem WI_skip {M : Mem} {i : Nat} {y : Int64} (h : WI M i y) (c : gB M 7 i = 0) : WI M (i + 1) y := by
  refine ⟨⟨h.1.1, by have := h.1.2; omega⟩, fun ⟨j, hj, hz⟩ => h.2 ⟨j, ?_, hz⟩⟩
  rcases Nat.lt_succ_iff_lt_or_eq.mp hj with h | rfl
  · exact h
  · exact absurd c hz
theorem WI_add {M : Mem} {i : Nat} {y w z : Int64} (h : WI M i y) (hi : i < 8) (h1 : 1 ≤ w.toInt) (h2 : w.toInt ≤ 1000000) (hz : z = y + w) : WI M (i + 1) z := by
  have h3 := h.1.1
  have h4 := h.1.2
  have e : z.toInt = y.toInt + w.toInt := by
    rw [hz, Int64.toInt_add]
    exact Int.bmod_eq_of_le (by omega) (by omega)
  refine ⟨⟨by omega, by omega⟩, fun _ => by omega⟩
theorem wt_lo {w : Int64} (h : ¬ w < 1) : 1 ≤ w.toInt := by
  rw [Int64.lt_iff_toInt_lt] at h
  have : (1 : Int64).toInt = 1 := by decide
  omega
theorem wt_hi (d : Int64) : ((1000000 : Int64) / d).toInt ≤ 1000000 := by
  rw [Int64.toInt_div]
  have e : (1000000 : Int64).toInt = 1000000 := by decide
  rw [e]
  have h1 : ((1000000 : Int).tdiv d.toInt).natAbs ≤ 1000000 := by
    rw [Int.natAbs_tdiv]
    exact Nat.div_le_self _ _
  rw [Int.bmod_eq_of_le (by omega) (by omega)]
  omega
theorem WI_ne {M : Mem} {y : Int64} {i : Nat} (h : WI M i y) (hi : ¬ i < 8) (hs : ∃ j, j < 8 ∧ ¬ gB M 7 j = 0) : ¬ y = 0 := by
  obtain ⟨j, hj, hz⟩ := hs
  have h1 := h.2 ⟨j, by omega, hz⟩
  intro e
  rw [e] at h1
  exact absurd h1 (by decide)

theorem fa_eq' (a b : Int32) : (a = b) = (a.toInt = b.toInt) := propext ⟨fun h => by rw [h], fun h => Int32.toInt_inj.mp h⟩
def f_X6_refused (M : Mem) (p0 : Int32) : Int32 × Mem := bnd (sI M (0) p0) fun M_1 => if p0 = (0 : Int32) then ((0 : Int32), M_1) else ((1 : Int32), M_1)
theorem f_X6_refused_b (M : Mem) (p0 : Int32) : (f_X6_refused M p0).1 = 0 ∨ (f_X6_refused M p0).1 = 1 := by
  unfold f_X6_refused
  repeat' (first | with_reducible refine bnd_or1 (fun _ => ?_) | with_reducible refine bnd2_or1 (fun _ _ => ?_) | with_reducible refine ite_or1 ?_ ?_ | exact Or.inl rfl | exact Or.inr rfl)
def f_X6_thrown (M : Mem)  : Int32 := gI M (0)
def f_X6_fine (M : Mem) (p0 : Int32) : Int32 × Mem := bnd (sI M (0) (0 : Int32)) fun M_1 => (p0, M_1)
def f_X6_fineLong (M : Mem) (p0 : Int64) : Int64 × Mem := bnd (sI M (0) (0 : Int32)) fun M_1 => (p0, M_1)
def f_X6_in (p0 : Int64) (p1 : Int64) (p2 : Int64) : Int32 := if p0 < p1 then (0 : Int32) else if p2 < p0 then (0 : Int32) else (1 : Int32)
theorem f_X6_in_pos {a b c : Int64} (h : ¬ f_X6_in a b c = 0) : ¬ a < b ∧ ¬ c < a := by
  unfold f_X6_in at h
  by_cases h1 : a < b
  · rw [if_pos h1] at h; exact absurd rfl h
  · rw [if_neg h1] at h
    by_cases h2 : c < a
    · rw [if_pos h2] at h; exact absurd rfl h
    · exact ⟨h1, h2⟩
theorem in_rng {x : Int32} {n : Nat} (hn : n < 2 ^ 31) (h : ¬ f_X6_in x.toInt64 0 (Int64.ofNat n) = 0) : ∃ j, j ≤ n ∧ x = nI j := by
  obtain ⟨h1, h2⟩ := f_X6_in_pos h
  rw [Int64.lt_iff_toInt_lt] at h1 h2
  rw [Int32.toInt_toInt64] at h1 h2
  have e0 : (0 : Int64).toInt = 0 := by decide
  have e1 : (Int64.ofNat n).toInt = n := lN_toInt hn
  have hlt := x.toInt_lt
  refine ⟨x.toInt.toNat, by omega, ?_⟩
  rw [fa_eq', nI_toInt (by omega)]
  omega
theorem f_X6_in_b (p0 : Int64) (p1 : Int64) (p2 : Int64) : (f_X6_in p0 p1 p2) = 0 ∨ (f_X6_in p0 p1 p2) = 1 := by
  unfold f_X6_in
  repeat' (first | with_reducible refine bnd_or (fun _ => ?_) | with_reducible refine bnd2_or (fun _ _ => ?_) | with_reducible refine ite_or ?_ ?_ | exact Or.inl rfl | exact Or.inr rfl)
def f_X6_down (p0 : Int64) (p1 : Int64) : Int64 := bnd ((p0 / p1)) fun x_1 => if p0 < (x_1 * p1) then (x_1 - (1 : Int64)) else x_1
def f_X6_size (p0 : Int64) : Int64 := if p0 < (0 : Int64) then (-p0) else p0
def f_X6_smearFrom (p0 : Int32) : Int64 := ((((p0 + (1 : Int32))).toInt64 * (86400000000 : Int64)) - (20000000000 : Int64))
def f_X6_held (p0 : Int64) : Int32 := if (500 : Int64) < p0 then (500 : Int32) else if p0 < ((-500) : Int64) then ((-500) : Int32) else (p0).toInt32
def f_X6_reading (M : Mem)  : Int64 := bnd ((f_X6_down (gL M (1)) (1000000 : Int64))) fun x_1 => x_1
def f_X6_restart_L85  : Nat → Nat → Mem → Mem
  | 0, _, M_85 => M_85
  | r + 1, i, M_85 => if nI i < (21 : Int32) then bnd (sB M_85 0 (upd (gB M_85 0) (i) (0 : Int32))) fun M_22 => f_X6_restart_L85   r (i + 1) M_22  else M_85
def f_X6_restart (M : Mem) (p0 : Int32) : Mem := bnd ((f_X6_in ((p0).toInt64) ((-1000000000) : Int64) (1000000000 : Int64))) fun x_1 => if x_1 = (0 : Int32) then bnd2 (f_X6_refused M  (1 : Int32)) fun r_4 M_3 => M_3 else bnd2 (f_X6_refused M  (0 : Int32)) fun r_8 M_7 => bnd (sL M_7 (0) (0 : Int64)) fun M_11 => bnd (sL M_11 (1) ((p0).toInt64 * (1000000 : Int64))) fun M_12 => bnd (sL M_12 (2) (0 : Int64)) fun M_13 => bnd (sI M_13 (1) (0 : Int32)) fun M_14 => bnd (sI M_14 (2) (0 : Int32)) fun M_15 => bnd (sI M_15 (3) (0 : Int32)) fun M_16 => bnd (sI M_16 (4) (0 : Int32)) fun M_17 => bnd (sI M_17 (5) (16 : Int32)) fun M_18 => bnd (sL M_18 (3) (0 : Int64)) fun M_19 => bnd (sI M_19 (6) (0 : Int32)) fun M_20 => f_X6_restart_L85   (21 + 1 - 0) 0 M_20 
def f_X6_goOn (M : Mem) (p0 : Int32) : Mem := bnd (((500 : Int64) * (p0).toInt64)) fun x_1 => if x_1 < gL M (2) then bnd (sL M (0) (gL M (0) + (p0).toInt64)) fun M_3 => bnd (sL M_3 (1) (gL M_3 (1) + (((p0).toInt64 * (((1000000 : Int64) + (gI M_3 (1)).toInt64) + (gI M_3 (2)).toInt64)) + x_1))) fun M_4 => bnd (sL M_4 (2) (gL M_4 (2) - x_1)) fun M_5 => M_5 else if gL M (2) < (-x_1) then bnd ((-x_1)) fun x_7 => bnd (sL M (0) (gL M (0) + (p0).toInt64)) fun M_8 => bnd (sL M_8 (1) (gL M_8 (1) + (((p0).toInt64 * (((1000000 : Int64) + (gI M_8 (1)).toInt64) + (gI M_8 (2)).toInt64)) + x_7))) fun M_9 => bnd (sL M_9 (2) (gL M_9 (2) - x_7)) fun M_10 => M_10 else bnd (gL M (2)) fun x_11 => bnd (sL M (0) (gL M (0) + (p0).toInt64)) fun M_12 => bnd (sL M_12 (1) (gL M_12 (1) + (((p0).toInt64 * (((1000000 : Int64) + (gI M_12 (1)).toInt64) + (gI M_12 (2)).toInt64)) + x_11))) fun M_13 => bnd (sL M_13 (2) (gL M_13 (2) - x_11)) fun M_14 => M_14
def f_X6_pass (M : Mem) (p0 : Int32) : Int64 × Mem := bnd ((f_X6_in ((p0).toInt64) (1 : Int64) (1000000000 : Int64))) fun x_1 => if x_1 = (0 : Int32) then bnd2 (f_X6_refused M  (1 : Int32)) fun r_4 M_3 => ((0 : Int64), M_3) else if (1000000000000 : Int64) < (gL M (0) + (p0).toInt64) then bnd2 (f_X6_refused M  (2 : Int32)) fun r_9 M_8 => ((0 : Int64), M_8) else bnd2 (f_X6_refused M  (0 : Int32)) fun r_13 M_12 => bnd (f_X6_goOn M_12  p0) fun M_16 => bnd (f_X6_reading M_16  ) fun r_17 => (r_17, M_16)
def f_X6_setDrift (M : Mem) (p0 : Int32) : Int32 × Mem := bnd ((f_X6_in ((p0).toInt64) ((-300) : Int64) (300 : Int64))) fun x_1 => if x_1 = (0 : Int32) then bnd2 (f_X6_refused M  (1 : Int32)) fun r_4 M_3 => ((0 : Int32), M_3) else bnd2 (f_X6_refused M  (0 : Int32)) fun r_8 M_7 => bnd (gI M_7 (1)) fun x_11 => bnd (sI M_7 (1) p0) fun M_12 => (x_11, M_12)
def f_X6_trueTime (M : Mem)  : Int64 × Mem := bnd2 (f_X6_fineLong M  (gL M (0))) fun r_2 M_1 => (r_2, M_1)
def f_X6_clock (M : Mem)  : Int64 × Mem := bnd (f_X6_reading M  ) fun r_1 => bnd2 (f_X6_fineLong M  r_1) fun r_3 M_2 => (r_3, M_2)
def f_X6_error (M : Mem)  : Int64 × Mem := bnd (f_X6_reading M  ) fun r_1 => bnd2 (f_X6_fineLong M  (r_1 - gL M (0))) fun r_3 M_2 => (r_3, M_2)
def f_X6_pendingSlew (M : Mem)  : Int64 × Mem := bnd2 (f_X6_fineLong M  (gL M (2) / (1000000 : Int64))) fun r_2 M_1 => (r_2, M_1)
def f_X6_correction (M : Mem)  : Int32 × Mem := bnd2 (f_X6_fine M  (gI M (2))) fun r_2 M_1 => (r_2, M_1)
def f_X6_announceLeap (M : Mem) (p0 : Int32) (p1 : Int32) : Int64 × Mem := bnd ((f_X6_in ((p0).toInt64) (0 : Int64) (20 : Int64))) fun x_1 => if x_1 = (0 : Int32) then bnd2 (f_X6_refused M  (1 : Int32)) fun r_4 M_3 => ((0 : Int64), M_3) else bnd ((p0).toNatClampNeg) fun j0 => if gB M 0 (j0) = (0 : Int32) then bnd (f_X6_reading M  ) fun r_8 => bnd ((f_X6_smearFrom (nI j0))) fun x_9 => if r_8 < x_9 then bnd2 (f_X6_refused M  (0 : Int32)) fun r_12 M_11 => if p1 = (0 : Int32) then bnd (sB M_11 0 (upd (gB M_11 0) (j0) (1 : Int32))) fun M_16 => bnd ((f_X6_smearFrom (nI j0))) fun x_17 => (x_17, M_16) else bnd (sB M_11 0 (upd (gB M_11 0) (j0) ((-1) : Int32))) fun M_18 => bnd ((f_X6_smearFrom (nI j0))) fun x_19 => (x_19, M_18) else bnd2 (f_X6_refused M  (2 : Int32)) fun r_21 M_20 => ((0 : Int64), M_20) else bnd2 (f_X6_refused M  (2 : Int32)) fun r_25 M_24 => ((0 : Int64), M_24)
def f_X6_civil_L7 (M : Mem)  : Nat → Nat → Int64 → Int64 × Mem
  | 0, _, _ => (0, M)
  | r + 1, i, y1_7 => if nI i < (21 : Int32) then bnd (f_X6_reading M  ) fun r_3 => bnd ((f_X6_smearFrom (nI i))) fun x_4 => bnd ((r_3 - x_4)) fun x_5 => if x_5 < (0 : Int64) then bnd ((y1_7 + ((gB M 0 (i)).toInt64 * (0 : Int64)))) fun x_7 => f_X6_civil_L7 M  r (i + 1) x_7 else if x_5 < (20000000000 : Int64) then bnd ((x_5 / (20000 : Int64))) fun x_9 => bnd ((y1_7 + ((gB M 0 (i)).toInt64 * x_9))) fun x_10 => f_X6_civil_L7 M  r (i + 1) x_10 else bnd ((y1_7 + ((gB M 0 (i)).toInt64 * (1000000 : Int64)))) fun x_11 => f_X6_civil_L7 M  r (i + 1) x_11 else bnd2 (f_X6_fineLong M  y1_7) fun r_13 M_12 => (r_13, M_12)
def f_X6_civil (M : Mem)  : Int64 × Mem := bnd (f_X6_reading M  ) fun r_1 => f_X6_civil_L7 M  (21 + 1 - 0) 0 r_1
def f_X6_addServer (M : Mem) (p0 : Int32) (p1 : Int32) (p2 : Int32) (p3 : Int32) : Int32 × Mem := bnd ((f_X6_in ((p0).toInt64) (1 : Int64) (14 : Int64))) fun x_1 => if x_1 = (0 : Int32) then bnd2 (f_X6_refused M  (1 : Int32)) fun r_5 M_4 => ((0 : Int32), M_4) else bnd ((f_X6_in ((p1).toInt64) ((-1000000) : Int64) (1000000 : Int64))) fun x_8 => if x_8 = (0 : Int32) then bnd2 (f_X6_refused M  (1 : Int32)) fun r_12 M_11 => ((0 : Int32), M_11) else bnd ((f_X6_in ((p2).toInt64) (0 : Int64) (1000000 : Int64))) fun x_15 => if x_15 = (0 : Int32) then bnd2 (f_X6_refused M  (1 : Int32)) fun r_19 M_18 => ((0 : Int32), M_18) else bnd ((f_X6_in ((p3).toInt64) (0 : Int64) (1000000 : Int64))) fun x_22 => if x_22 = (0 : Int32) then bnd2 (f_X6_refused M  (1 : Int32)) fun r_26 M_25 => ((0 : Int32), M_25) else if nI (sn M) = (8 : Int32) then bnd2 (f_X6_refused M  (2 : Int32)) fun r_33 M_32 => ((0 : Int32), M_32) else bnd2 (f_X6_refused M  (0 : Int32)) fun r_37 M_36 => bnd (sB M_36 1 (upd (gB M_36 1) (sn M_36) p0)) fun M_41 => bnd (sB M_41 2 (upd (gB M_41 2) (sn M_41) p1)) fun M_43 => bnd (sB M_43 3 (upd (gB M_43 3) (sn M_43) p2)) fun M_45 => bnd (sB M_45 4 (upd (gB M_45 4) (sn M_45) p3)) fun M_47 => bnd (sB M_47 5 (upd (gB M_47 5) (sn M_47) (0 : Int32))) fun M_49 => bnd (sI M_49 (6) (nI ((sn M_49) + 1))) fun M_51 => (nI ((sn M_51) - 1), M_51)
def f_X6_isServer (M : Mem) (p0 : Int32) : Int32 := bnd ((f_X6_in ((p0).toInt64) (0 : Int64) ((nI (sn M)).toInt64 - (1 : Int64)))) fun x_2 => x_2
theorem srv_of {M : Mem} {x : Int32} (w : WFm M) (h : ¬ f_X6_isServer M x = 0) : ∃ j, (j < 8 ∧ j < sn M) ∧ x = nI j := by
  unfold f_X6_isServer at h
  have h' : ¬ f_X6_in x.toInt64 0 ((nI (sn M)).toInt64 - 1) = 0 := h
  have hs := (WFs w).1
  rw [nI_l (by omega)] at h'
  by_cases h0 : sn M = 0
  · exfalso
    obtain ⟨h1, h2⟩ := f_X6_in_pos h'
    rw [h0] at h2
    rw [Int64.lt_iff_toInt_lt] at h1 h2
    have e0 : (0 : Int64).toInt = 0 := by decide
    have e1 : (lN 0 - 1).toInt = -1 := by decide
    omega
  · rw [show lN (sn M) - 1 = lN (sn M - 1) from lN_sub (b := 1) (by omega)] at h'
    obtain ⟨j, hj, e⟩ := in_rng (n := sn M - 1) (by omega) h'
    exact ⟨j, ⟨by omega, by omega⟩, e⟩
theorem f_X6_isServer_b (M : Mem) (p0 : Int32) : (f_X6_isServer M p0) = 0 ∨ (f_X6_isServer M p0) = 1 := by
  unfold f_X6_isServer
  repeat' (first | with_reducible refine bnd_id (by apply f_X6_in_b) | with_reducible refine bnd_or (fun _ => ?_) | with_reducible refine bnd2_or (fun _ _ => ?_) | with_reducible refine ite_or ?_ ?_ | exact Or.inl rfl | exact Or.inr rfl)
def f_X6_setError (M : Mem) (p0 : Int32) (p1 : Int32) : Int32 × Mem := bnd (f_X6_isServer M  p0) fun r_1 => if r_1 = (0 : Int32) then bnd2 (f_X6_refused M  (1 : Int32)) fun r_4 M_3 => ((0 : Int32), M_3) else bnd ((f_X6_in ((p1).toInt64) ((-1000000) : Int64) (1000000 : Int64))) fun x_7 => if x_7 = (0 : Int32) then bnd2 (f_X6_refused M  (2 : Int32)) fun r_10 M_9 => ((0 : Int32), M_9) else bnd2 (f_X6_refused M  (0 : Int32)) fun r_14 M_13 => bnd ((p0).toNatClampNeg) fun j0 => bnd (gB M_13 2 (j0)) fun x_17 => bnd (sB M_13 2 (upd (gB M_13 2) (j0) p1)) fun M_18 => (x_17, M_18)
def f_X6_keep_L21 (j0 : Nat) (p1 : Int64) (p2 : Int64) (p3 : Int64) : Nat → Nat → Mem → Mem
  | 0, _, M_21 => M_21
  | r + 1, i, M_21 => if nI i < nI (((8 * j0) + 8) - 1) then bnd (sJ M_21 0 (vp_updL (gJ M_21 0) (i) (gJ M_21 0 (i + 1)))) fun M_4 => bnd (sJ M_4 1 (vp_updL (gJ M_4 1) (i) (gJ M_4 1 (i + 1)))) fun M_5 => bnd (sJ M_5 2 (vp_updL (gJ M_5 2) (i) (gJ M_5 2 (i + 1)))) fun M_6 => f_X6_keep_L21  j0 p1 p2 p3 r (i + 1) M_6  else bnd (sB M_21 5 (upd (gB M_21 5) (j0) (nI ((kn M_21 (j0)) - 1)))) fun M_9 => bnd (sJ M_9 0 (vp_updL (gJ M_9 0) ((8 * j0) + (kn M_9 (j0))) p1)) fun M_11 => bnd (sJ M_11 1 (vp_updL (gJ M_11 1) ((8 * j0) + (kn M_9 (j0))) p2)) fun M_12 => bnd (sJ M_12 2 (vp_updL (gJ M_12 2) ((8 * j0) + (kn M_9 (j0))) p3)) fun M_13 => bnd (sB M_13 5 (upd (gB M_13 5) (j0) (nI ((kn M_13 (j0)) + 1)))) fun M_18 => M_18
def f_X6_keep (M : Mem) (j0 : Nat) (p1 : Int64) (p2 : Int64) (p3 : Int64) : Mem := if nI (kn M (j0)) = (8 : Int32) then f_X6_keep_L21  j0 p1 p2 p3 ((8 * j0 + 8 - 1) + 1 - 8 * j0) (8 * j0) M  else bnd (sJ M 0 (vp_updL (gJ M 0) ((8 * j0) + (kn M (j0))) p1)) fun M_20 => bnd (sJ M_20 1 (vp_updL (gJ M_20 1) ((8 * j0) + (kn M (j0))) p2)) fun M_21 => bnd (sJ M_21 2 (vp_updL (gJ M_21 2) ((8 * j0) + (kn M (j0))) p3)) fun M_22 => bnd (sB M_22 5 (upd (gB M_22 5) (j0) (nI ((kn M_22 (j0)) + 1)))) fun M_27 => M_27
def f_X6_exchange (M : Mem) (p0 : Int32) (p1 : Int32) (p2 : Int32) (p3 : Int32) : Int64 × Mem := bnd ((f_X6_in ((p1).toInt64) (0 : Int64) (500000 : Int64))) fun x_1 => if x_1 = (0 : Int32) then bnd (f_X6_isServer M  p0) fun r_3 => if r_3 = (0 : Int32) then bnd2 (f_X6_refused M  (1 : Int32)) fun r_6 M_5 => ((0 : Int64), M_5) else bnd2 (f_X6_refused M  (2 : Int32)) fun r_11 M_10 => ((0 : Int64), M_10) else bnd ((f_X6_in ((p2).toInt64) (0 : Int64) (100000 : Int64))) fun x_14 => if x_14 = (0 : Int32) then bnd (f_X6_isServer M  p0) fun r_16 => if r_16 = (0 : Int32) then bnd2 (f_X6_refused M  (1 : Int32)) fun r_19 M_18 => ((0 : Int64), M_18) else bnd2 (f_X6_refused M  (2 : Int32)) fun r_24 M_23 => ((0 : Int64), M_23) else bnd ((f_X6_in ((p3).toInt64) (0 : Int64) (500000 : Int64))) fun x_27 => if x_27 = (0 : Int32) then bnd (f_X6_isServer M  p0) fun r_29 => if r_29 = (0 : Int32) then bnd2 (f_X6_refused M  (1 : Int32)) fun r_32 M_31 => ((0 : Int64), M_31) else bnd2 (f_X6_refused M  (2 : Int32)) fun r_37 M_36 => ((0 : Int64), M_36) else bnd (f_X6_isServer M  p0) fun r_40 => if r_40 = (0 : Int32) then bnd2 (f_X6_refused M  (1 : Int32)) fun r_43 M_42 => ((0 : Int64), M_42) else if (1000000000000 : Int64) < (((gL M (0) + (p1).toInt64) + (p2).toInt64) + (p3).toInt64) then bnd2 (f_X6_refused M  (3 : Int32)) fun r_49 M_48 => ((0 : Int64), M_48) else bnd2 (f_X6_refused M  (0 : Int32)) fun r_53 M_52 => bnd ((p0).toNatClampNeg) fun j0 => bnd (f_X6_reading M_52  ) fun r_56 => bnd (f_X6_goOn M_52  p1) fun M_57 => bnd ((gL M_57 (0) + (gB M_57 2 (j0)).toInt64)) fun x_58 => bnd (f_X6_goOn M_57  p2) fun M_59 => bnd ((gL M_59 (0) + (gB M_59 2 (j0)).toInt64)) fun x_60 => bnd (f_X6_goOn M_59  p3) fun M_61 => bnd (f_X6_reading M_61  ) fun r_62 => bnd (((r_62 - r_56) - (x_60 - x_58))) fun x_63 => if x_63 < (0 : Int64) then bnd ((f_X6_down ((x_58 - r_56) + (x_60 - r_62)) (2 : Int64))) fun x_65 => bnd (f_X6_keep M_61  (j0) x_65 (0 : Int64) r_62) fun M_66 => ((0 : Int64), M_66) else bnd ((f_X6_down ((x_58 - r_56) + (x_60 - r_62)) (2 : Int64))) fun x_67 => bnd (f_X6_keep M_61  (j0) x_67 x_63 r_62) fun M_68 => (x_63, M_68)
def f_X6_servers (M : Mem)  : Int32 × Mem := bnd2 (f_X6_fine M  (nI (sn M))) fun r_3 M_2 => (r_3, M_2)
def f_X6_samples (M : Mem) (p0 : Int32) : Int32 × Mem := bnd (f_X6_isServer M  p0) fun r_1 => if r_1 = (0 : Int32) then bnd2 (f_X6_refused M  (1 : Int32)) fun r_4 M_3 => ((0 : Int32), M_3) else bnd2 (f_X6_refused M  (0 : Int32)) fun r_8 M_7 => bnd ((p0).toNatClampNeg) fun j0 => (nI (kn M_7 (j0)), M_7)
def f_X6_best_L10 (M : Mem) (j0 : Nat) : Nat → Nat → Nat → Int32
  | 0, _, _ => 0
  | r + 1, i, b => if nI i < nI ((8 * j0) + (kn M (j0))) then if gJ M 1 (b) < gJ M 1 (i) then f_X6_best_L10 M j0 r (i + 1) b else f_X6_best_L10 M j0 r (i + 1) i else nI b
def f_X6_best (M : Mem) (j0 : Nat) : Int32 := f_X6_best_L10 M j0 ((8 * j0 + kn M j0) + 1 - 8 * j0) (8 * j0) (8 * j0)
def f_X6_jitterOf_L8 (M : Mem) (j0 : Nat) : Nat → Nat → Int64 → Int64
  | 0, _, _ => 0
  | r + 1, i, y2_8 => if nI i < nI ((8 * j0) + (kn M (j0))) then bnd (f_X6_best M  (j0)) fun r_3 => bnd ((f_X6_size (gJ M 0 (i) - gJ M 0 (r_3).toNatClampNeg))) fun x_4 => bnd ((y2_8 + x_4)) fun x_5 => f_X6_jitterOf_L8 M j0 r (i + 1) x_5 else if nI (kn M (j0)) = (1 : Int32) then (0 : Int64) else (y2_8 / ((nI (kn M (j0))).toInt64 - (1 : Int64)))
def f_X6_jitterOf (M : Mem) (j0 : Nat) : Int64 := f_X6_jitterOf_L8 M j0 ((8 * j0 + kn M j0) + 1 - 8 * j0) (8 * j0) (0 : Int64)
def f_X6_distanceOf (M : Mem) (j0 : Nat) : Int64 := bnd (f_X6_best M  (j0)) fun r_1 => bnd (f_X6_jitterOf M  (j0)) fun r_2 => bnd (f_X6_reading M  ) fun r_3 => bnd ((f_X6_down ((15 : Int64) * (r_3 - gJ M 2 (r_1).toNatClampNeg)) (1000000 : Int64))) fun x_4 => ((((((gB M 3 (j0) / (2 : Int32))).toInt64 + (gJ M 1 (r_1).toNatClampNeg / (2 : Int64))) + (gB M 4 (j0)).toInt64) + r_2) + x_4)
def f_X6_noSample (M : Mem) (p0 : Int32) : Int32 × Mem := bnd (f_X6_isServer M  p0) fun r_1 => if r_1 = (0 : Int32) then bnd2 (f_X6_refused M  (1 : Int32)) fun r_4 M_3 => ((1 : Int32), M_3) else bnd ((p0).toNatClampNeg) fun j0 => if nI (kn M (j0)) = (0 : Int32) then bnd2 (f_X6_refused M  (2 : Int32)) fun r_9 M_8 => ((1 : Int32), M_8) else bnd2 (f_X6_refused M  (0 : Int32)) fun r_12 M_11 => ((0 : Int32), M_11)
theorem ns_of {M u : Mem} {x r : Int32} (w : WFm M) (h : (r, u) = f_X6_noSample M x) (h0 : r = 0) : ∃ j, (j < 8 ∧ j < sn M) ∧ x = nI j := by
  have h1 : (f_X6_noSample M x).1 = 0 := by rw [← h]; exact h0
  unfold f_X6_noSample at h1
  by_cases c : f_X6_isServer M x = 0
  · simp only [bnd, c] at h1
    exact absurd h1 (by simp [bnd2])
  · exact srv_of w c
theorem f_X6_noSample_b (M : Mem) (p0 : Int32) : (f_X6_noSample M p0).1 = 0 ∨ (f_X6_noSample M p0).1 = 1 := by
  unfold f_X6_noSample
  repeat' (first | with_reducible refine bnd_id1 (by apply f_X6_isServer_b) | with_reducible refine bnd_id1 (by apply f_X6_refused_b) | with_reducible refine bnd_or1 (fun _ => ?_) | with_reducible refine bnd2_or1 (fun _ _ => ?_) | with_reducible refine ite_or1 ?_ ?_ | exact Or.inl rfl | exact Or.inr rfl)
def f_X6_offset (M : Mem) (p0 : Int32) : Int64 × Mem := bnd2 (f_X6_noSample M  p0) fun r_2 M_1 => if r_2 = (0 : Int32) then bnd ((p0).toNatClampNeg) fun j0 => bnd (f_X6_best M_1  (j0)) fun r_5 => (gJ M_1 0 (r_5).toNatClampNeg, M_1) else ((0 : Int64), M_1)
def f_X6_delay (M : Mem) (p0 : Int32) : Int64 × Mem := bnd2 (f_X6_noSample M  p0) fun r_2 M_1 => if r_2 = (0 : Int32) then bnd ((p0).toNatClampNeg) fun j0 => bnd (f_X6_best M_1  (j0)) fun r_5 => (gJ M_1 1 (r_5).toNatClampNeg, M_1) else ((0 : Int64), M_1)
def f_X6_jitter (M : Mem) (p0 : Int32) : Int64 × Mem := bnd2 (f_X6_noSample M  p0) fun r_2 M_1 => if r_2 = (0 : Int32) then bnd ((p0).toNatClampNeg) fun j0 => bnd (f_X6_jitterOf M_1  (j0)) fun r_5 => (r_5, M_1) else ((0 : Int64), M_1)
def f_X6_distance (M : Mem) (p0 : Int32) : Int64 × Mem := bnd2 (f_X6_noSample M  p0) fun r_2 M_1 => if r_2 = (0 : Int32) then bnd ((p0).toNatClampNeg) fun j0 => bnd (f_X6_distanceOf M_1  (j0)) fun r_5 => (r_5, M_1) else ((0 : Int64), M_1)
def f_X6_from (M : Mem) (j0 : Nat) : Int64 := bnd (f_X6_best M  (j0)) fun r_1 => bnd (f_X6_distanceOf M  (j0)) fun r_2 => (gJ M 0 (r_1).toNatClampNeg - r_2)
def f_X6_to (M : Mem) (j0 : Nat) : Int64 := bnd (f_X6_best M  (j0)) fun r_1 => bnd (f_X6_distanceOf M  (j0)) fun r_2 => (gJ M 0 (r_1).toNatClampNeg + r_2)
def f_X6_has (M : Mem) (j0 : Nat) (p1 : Int64) : Int32 := if (0 : Int32) < nI (kn M (j0)) then bnd (f_X6_from M  (j0)) fun r_3 => if p1 < r_3 then (0 : Int32) else bnd (f_X6_to M  (j0)) fun r_5 => if r_5 < p1 then (0 : Int32) else (1 : Int32) else (0 : Int32)
theorem f_X6_has_b (M : Mem) (j0 : Nat) (p1 : Int64) : (f_X6_has M j0 p1) = 0 ∨ (f_X6_has M j0 p1) = 1 := by
  unfold f_X6_has
  repeat' (first | with_reducible refine bnd_or (fun _ => ?_) | with_reducible refine bnd2_or (fun _ _ => ?_) | with_reducible refine ite_or ?_ ?_ | exact Or.inl rfl | exact Or.inr rfl)
def f_X6_covers_L5 (M : Mem) (p0 : Int64) : Nat → Nat → Int32 → Int32
  | 0, _, _ => 0
  | r + 1, i, y3_5 => if nI i < nI (sn M) then bnd (f_X6_has M  (i) p0) fun r_3 => if r_3 = (0 : Int32) then bnd ((y3_5 + (0 : Int32))) fun x_5 => f_X6_covers_L5 M p0 r (i + 1) x_5 else bnd ((y3_5 + (1 : Int32))) fun x_6 => f_X6_covers_L5 M p0 r (i + 1) x_6 else y3_5
def f_X6_covers (M : Mem) (p0 : Int64) : Int32 := f_X6_covers_L5 M p0 (sn M + 1 - 0) 0 (0 : Int32)
def f_X6_intersect_L130  : Nat → Nat → Mem → Int32 → Mem
  | 0, _, M_130, _ => M_130
  | r + 1, i, M_130, y1_130 => if nI i < (8 : Int32) then if nI i < nI (sn M_130) then if (0 : Int32) < gI M_130 (7) then bnd (f_X6_has M_130  (i) (gL M_130 (4))) fun r_39 => if r_39 = (0 : Int32) then bnd (sB M_130 6 (upd (gB M_130 6) (i) (0 : Int32))) fun M_41 => if gB M_41 6 (i) = (0 : Int32) then f_X6_intersect_L130   r (i + 1) M_41 y1_130 else if y1_130 = (0 : Int32) then bnd (f_X6_to M_41  (i)) fun r_45 => if r_45 < gL M_41 (5) then bnd (f_X6_to M_41  (i)) fun r_47 => bnd (sL M_41 (5) r_47) fun M_48 => f_X6_intersect_L130   r (i + 1) M_48 (0 : Int32) else bnd (sL M_41 (5) (gL M_41 (5))) fun M_49 => f_X6_intersect_L130   r (i + 1) M_49 (0 : Int32) else bnd (f_X6_to M_41  (i)) fun r_50 => bnd (sL M_41 (5) r_50) fun M_51 => f_X6_intersect_L130   r (i + 1) M_51 (0 : Int32) else bnd (sB M_130 6 (upd (gB M_130 6) (i) (1 : Int32))) fun M_52 => if gB M_52 6 (i) = (0 : Int32) then f_X6_intersect_L130   r (i + 1) M_52 y1_130 else if y1_130 = (0 : Int32) then bnd (f_X6_to M_52  (i)) fun r_56 => if r_56 < gL M_52 (5) then bnd (f_X6_to M_52  (i)) fun r_58 => bnd (sL M_52 (5) r_58) fun M_59 => f_X6_intersect_L130   r (i + 1) M_59 (0 : Int32) else bnd (sL M_52 (5) (gL M_52 (5))) fun M_60 => f_X6_intersect_L130   r (i + 1) M_60 (0 : Int32) else bnd (f_X6_to M_52  (i)) fun r_61 => bnd (sL M_52 (5) r_61) fun M_62 => f_X6_intersect_L130   r (i + 1) M_62 (0 : Int32) else bnd (sB M_130 6 (upd (gB M_130 6) (i) (0 : Int32))) fun M_63 => if gB M_63 6 (i) = (0 : Int32) then f_X6_intersect_L130   r (i + 1) M_63 y1_130 else if y1_130 = (0 : Int32) then bnd (f_X6_to M_63  (i)) fun r_67 => if r_67 < gL M_63 (5) then bnd (f_X6_to M_63  (i)) fun r_69 => bnd (sL M_63 (5) r_69) fun M_70 => f_X6_intersect_L130   r (i + 1) M_70 (0 : Int32) else bnd (sL M_63 (5) (gL M_63 (5))) fun M_71 => f_X6_intersect_L130   r (i + 1) M_71 (0 : Int32) else bnd (f_X6_to M_63  (i)) fun r_72 => bnd (sL M_63 (5) r_72) fun M_73 => f_X6_intersect_L130   r (i + 1) M_73 (0 : Int32) else bnd (sB M_130 6 (upd (gB M_130 6) (i) (0 : Int32))) fun M_74 => if gB M_74 6 (i) = (0 : Int32) then f_X6_intersect_L130   r (i + 1) M_74 y1_130 else if y1_130 = (0 : Int32) then bnd (f_X6_to M_74  (i)) fun r_78 => if r_78 < gL M_74 (5) then bnd (f_X6_to M_74  (i)) fun r_80 => bnd (sL M_74 (5) r_80) fun M_81 => f_X6_intersect_L130   r (i + 1) M_81 (0 : Int32) else bnd (sL M_74 (5) (gL M_74 (5))) fun M_82 => f_X6_intersect_L130   r (i + 1) M_82 (0 : Int32) else bnd (f_X6_to M_74  (i)) fun r_83 => bnd (sL M_74 (5) r_83) fun M_84 => f_X6_intersect_L130   r (i + 1) M_84 (0 : Int32) else M_130
def f_X6_intersect_L12  : Nat → Nat → Mem → Mem
  | 0, _, M_12 => M_12
  | r + 1, i, M_12 => if nI i < nI (sn M_12) then if (0 : Int32) < nI (kn M_12 (i)) then bnd (f_X6_from M_12  (i)) fun r_7 => bnd (f_X6_covers M_12  r_7) fun r_8 => if gI M_12 (8) < r_8 then bnd (sI M_12 (7) (gI M_12 (7) + (1 : Int32))) fun M_10 => bnd (f_X6_from M_10  (i)) fun r_12 => bnd (sL M_10 (4) r_12) fun M_13 => bnd (sI M_13 (8) r_8) fun M_15 => f_X6_intersect_L12   r (i + 1) M_15  else if r_8 = gI M_12 (8) then bnd (f_X6_from M_12  (i)) fun r_17 => if r_17 < gL M_12 (4) then bnd (sI M_12 (7) (gI M_12 (7) + (1 : Int32))) fun M_19 => bnd (f_X6_from M_19  (i)) fun r_21 => bnd (sL M_19 (4) r_21) fun M_22 => bnd (sI M_22 (8) r_8) fun M_24 => f_X6_intersect_L12   r (i + 1) M_24  else bnd (sI M_12 (7) (gI M_12 (7) + (1 : Int32))) fun M_25 => bnd (sL M_25 (4) (gL M_25 (4))) fun M_27 => bnd (sI M_27 (8) (gI M_27 (8))) fun M_29 => f_X6_intersect_L12   r (i + 1) M_29  else bnd (sI M_12 (7) (gI M_12 (7) + (1 : Int32))) fun M_30 => bnd (sL M_30 (4) (gL M_30 (4))) fun M_32 => bnd (sI M_32 (8) (gI M_32 (8))) fun M_34 => f_X6_intersect_L12   r (i + 1) M_34  else f_X6_intersect_L12   r (i + 1) M_12  else f_X6_intersect_L130   (8 + 1 - 0) 0 M_12 (1 : Int32)
def f_X6_intersect (M : Mem)  : Mem := bnd (sI M (7) (0 : Int32)) fun M_1 => bnd (sI M_1 (8) (0 : Int32)) fun M_2 => f_X6_intersect_L12   (sn M + 1 - 0) 0 M_2 
def f_X6_surviving_L4 (M : Mem)  : Nat → Nat → Int32 → Int32
  | 0, _, _ => 0
  | r + 1, i, y1_4 => if nI i < (8 : Int32) then if gB M 7 (i) = (0 : Int32) then bnd ((y1_4 + (0 : Int32))) fun x_4 => f_X6_surviving_L4 M  r (i + 1) x_4 else bnd ((y1_4 + (1 : Int32))) fun x_5 => f_X6_surviving_L4 M  r (i + 1) x_5 else y1_4
def f_X6_surviving (M : Mem)  : Int32 := f_X6_surviving_L4 M  (8 + 1 - 0) 0 (0 : Int32)
def f_X6_spread_L5 (M : Mem) (j0 : Nat) : Nat → Nat → Int64 → Int64
  | 0, _, _ => 0
  | r + 1, i, y2_5 => if nI i < (8 : Int32) then if gB M 7 (i) = (0 : Int32) then bnd ((y2_5 + (0 : Int64))) fun x_4 => f_X6_spread_L5 M j0 r (i + 1) x_4 else if nI i = nI j0 then bnd ((y2_5 + (0 : Int64))) fun x_6 => f_X6_spread_L5 M j0 r (i + 1) x_6 else bnd (f_X6_best M  (i)) fun r_7 => bnd (f_X6_best M  (j0)) fun r_8 => bnd ((f_X6_size (gJ M 0 (r_7).toNatClampNeg - gJ M 0 (r_8).toNatClampNeg))) fun x_9 => bnd ((y2_5 + x_9)) fun x_10 => f_X6_spread_L5 M j0 r (i + 1) x_10 else bnd (f_X6_surviving M  ) fun r_11 => (y2_5 / ((r_11).toInt64 - (1 : Int64)))
def f_X6_spread (M : Mem) (j0 : Nat) : Int64 := f_X6_spread_L5 M j0 (8 + 1 - 0) 0 (0 : Int64)
def f_X6_removes_L10 (M : Mem)  : Nat → Nat → Int32 → Int64 → Int32 → Int32 × Mem
  | 0, _, _, _, _ => (0, M)
  | r + 1, i, y4_10, y2_10, y1_10 => if nI i < (8 : Int32) then if gB M 7 (i) = (0 : Int32) then f_X6_removes_L10 M  r (i + 1) y4_10 y2_10 y1_10 else if y1_10 = ((-1) : Int32) then if y4_10 = (0 : Int32) then bnd (f_X6_jitterOf M  (i)) fun r_6 => if r_6 < y2_10 then bnd (f_X6_jitterOf M  (i)) fun r_8 => f_X6_removes_L10 M  r (i + 1) (0 : Int32) r_8 (nI i) else f_X6_removes_L10 M  r (i + 1) (0 : Int32) y2_10 (nI i) else bnd (f_X6_jitterOf M  (i)) fun r_9 => f_X6_removes_L10 M  r (i + 1) (0 : Int32) r_9 (nI i) else bnd (f_X6_spread M  (i)) fun r_10 => bnd (f_X6_spread M  ((y1_10).toNatClampNeg)) fun r_11 => if r_10 < r_11 then if y4_10 = (0 : Int32) then bnd (f_X6_jitterOf M  (i)) fun r_14 => if r_14 < y2_10 then bnd (f_X6_jitterOf M  (i)) fun r_16 => f_X6_removes_L10 M  r (i + 1) (0 : Int32) r_16 y1_10 else f_X6_removes_L10 M  r (i + 1) (0 : Int32) y2_10 y1_10 else bnd (f_X6_jitterOf M  (i)) fun r_17 => f_X6_removes_L10 M  r (i + 1) (0 : Int32) r_17 y1_10 else if y4_10 = (0 : Int32) then bnd (f_X6_jitterOf M  (i)) fun r_19 => if r_19 < y2_10 then bnd (f_X6_jitterOf M  (i)) fun r_21 => f_X6_removes_L10 M  r (i + 1) (0 : Int32) r_21 (nI i) else f_X6_removes_L10 M  r (i + 1) (0 : Int32) y2_10 (nI i) else bnd (f_X6_jitterOf M  (i)) fun r_22 => f_X6_removes_L10 M  r (i + 1) (0 : Int32) r_22 (nI i) else bnd (f_X6_spread M  ((y1_10).toNatClampNeg)) fun r_23 => if y2_10 < r_23 then bnd (sB M 7 (upd (gB M 7) (y1_10).toNatClampNeg (0 : Int32))) fun M_26 => ((1 : Int32), M_26) else ((0 : Int32), M)
def f_X6_removes (M : Mem)  : Int32 × Mem := f_X6_removes_L10 M  (8 + 1 - 0) 0 (1 : Int32) (0 : Int64) ((-1) : Int32)
def f_X6_select_L32  : Nat → Nat → Mem → Int32 → Mem
  | 0, _, M_32, _ => M_32
  | r + 1, i, M_32, y1_32 => if y1_32 = (0 : Int32) then M_32 else bnd (f_X6_surviving M_32  ) fun r_6 => if (3 : Int32) < r_6 then bnd2 (f_X6_removes M_32  ) fun r_9 M_8 => f_X6_select_L32   r (i + 1) M_8 r_9 else M_32
def f_X6_select_L6  : Nat → Nat → Mem → Mem
  | 0, _, M_6 => M_6
  | r + 1, i, M_6 => if nI i < (8 : Int32) then bnd (sB M_6 7 (upd (gB M_6 7) (i) (gB M_6 6 (i)))) fun M_4 => f_X6_select_L6   r (i + 1) M_4  else f_X6_select_L32   (9 + 1 - 0) 0 M_6 (1 : Int32)
def f_X6_select (M : Mem)  : Mem := bnd (f_X6_intersect M  ) fun M_1 => f_X6_select_L6   (8 + 1 - 0) 0 M_1 
def f_X6_set_L4 (M : Mem) (a0 : Nat) : Nat → Nat → Int32 → Int32
  | 0, _, _ => 0
  | r + 1, i, y1_4 => if nI i < (8 : Int32) then if gB M a0 (i) = (0 : Int32) then bnd ((y1_4 + (0 : Int32))) fun x_3 => f_X6_set_L4 M a0 r (i + 1) x_3 else bnd ((y1_4 + ((1 : Int32) <<< (nI i &&& 31)))) fun x_4 => f_X6_set_L4 M a0 r (i + 1) x_4 else y1_4
def f_X6_set (M : Mem) (a0 : Nat) : Int32 := f_X6_set_L4 M a0 (8 + 1 - 0) 0 (0 : Int32)
def f_X6_agreement (M : Mem)  : Int32 × Mem := bnd (f_X6_intersect M  ) fun M_1 => bnd2 (f_X6_fine M_1  (gI M_1 (8))) fun r_3 M_2 => (r_3, M_2)
def f_X6_hasMajority (M : Mem)  : Int32 × Mem := bnd (sI M (0) (0 : Int32)) fun M_1 => bnd (f_X6_intersect M_1  ) fun M_2 => if gI M_2 (7) < ((2 : Int32) * gI M_2 (8)) then ((1 : Int32), M_2) else ((0 : Int32), M_2)
theorem f_X6_hasMajority_b (M : Mem)  : (f_X6_hasMajority M ).1 = 0 ∨ (f_X6_hasMajority M ).1 = 1 := by
  unfold f_X6_hasMajority
  repeat' (first | with_reducible refine bnd_or1 (fun _ => ?_) | with_reducible refine bnd2_or1 (fun _ _ => ?_) | with_reducible refine ite_or1 ?_ ?_ | exact Or.inl rfl | exact Or.inr rfl)
def f_X6_agreeing (M : Mem)  : Int32 × Mem := bnd (f_X6_intersect M  ) fun M_1 => bnd (f_X6_set M_1  6) fun r_2 => bnd2 (f_X6_fine M_1  r_2) fun r_4 M_3 => (r_4, M_3)
def f_X6_low (M : Mem)  : Int64 × Mem := bnd (f_X6_intersect M  ) fun M_1 => if gI M_1 (7) = (0 : Int32) then bnd2 (f_X6_refused M_1  (1 : Int32)) fun r_4 M_3 => ((0 : Int64), M_3) else bnd2 (f_X6_refused M_1  (0 : Int32)) fun r_8 M_7 => (gL M_7 (4), M_7)
def f_X6_high (M : Mem)  : Int64 × Mem := bnd (f_X6_intersect M  ) fun M_1 => if gI M_1 (7) = (0 : Int32) then bnd2 (f_X6_refused M_1  (1 : Int32)) fun r_4 M_3 => ((0 : Int64), M_3) else bnd2 (f_X6_refused M_1  (0 : Int32)) fun r_8 M_7 => (gL M_7 (5), M_7)
def f_X6_survivors (M : Mem)  : Int32 × Mem := bnd (f_X6_select M  ) fun M_1 => bnd (f_X6_set M_1  7) fun r_2 => bnd2 (f_X6_fine M_1  r_2) fun r_4 M_3 => (r_4, M_3)
def f_X6_combined_L7 (M : Mem)  : Nat → Nat → Int64 → Int64 → Int64
  | 0, _, _, _ => 0
  | r + 1, i, y3_7, y1_7 => if nI i < (8 : Int32) then if gB M 7 (i) = (0 : Int32) then f_X6_combined_L7 M  r (i + 1) y3_7 y1_7 else bnd (f_X6_distanceOf M  (i)) fun r_4 => bnd (((1000000 : Int64) / (r_4 + (1 : Int64)))) fun x_5 => if x_5 < (1 : Int64) then bnd (f_X6_best M  (i)) fun r_7 => bnd ((y1_7 + ((1 : Int64) * gJ M 0 (r_7).toNatClampNeg))) fun x_8 => bnd ((y3_7 + (1 : Int64))) fun x_9 => f_X6_combined_L7 M  r (i + 1) x_9 x_8 else bnd (f_X6_best M  (i)) fun r_10 => bnd ((y1_7 + (x_5 * gJ M 0 (r_10).toNatClampNeg))) fun x_11 => bnd ((y3_7 + x_5)) fun x_12 => f_X6_combined_L7 M  r (i + 1) x_12 x_11 else bnd ((f_X6_down y1_7 y3_7)) fun x_13 => x_13
def f_X6_combined (M : Mem)  : Int64 := f_X6_combined_L7 M  (8 + 1 - 0) 0 (0 : Int64) (0 : Int64)
def f_X6_combinedOffset (M : Mem)  : Int64 × Mem := bnd (f_X6_select M  ) fun M_1 => if gI M_1 (7) = (0 : Int32) then bnd2 (f_X6_refused M_1  (1 : Int32)) fun r_4 M_3 => ((0 : Int64), M_3) else bnd2 (f_X6_refused M_1  (0 : Int32)) fun r_8 M_7 => bnd (f_X6_combined M_7  ) fun r_11 => (r_11, M_7)
def f_X6_leader_L4 (M : Mem)  : Nat → Nat → Int32 → Int32
  | 0, _, _ => 0
  | r + 1, i, y1_4 => if nI i < (8 : Int32) then if gB M 7 (i) = (0 : Int32) then f_X6_leader_L4 M  r (i + 1) y1_4 else if y1_4 = ((-1) : Int32) then f_X6_leader_L4 M  r (i + 1) (nI i) else if gB M 1 (i) < gB M 1 (y1_4).toNatClampNeg then f_X6_leader_L4 M  r (i + 1) (nI i) else if gB M 1 (i) = gB M 1 (y1_4).toNatClampNeg then bnd (f_X6_distanceOf M  (i)) fun r_9 => bnd (f_X6_distanceOf M  ((y1_4).toNatClampNeg)) fun r_10 => if r_9 < r_10 then f_X6_leader_L4 M  r (i + 1) (nI i) else f_X6_leader_L4 M  r (i + 1) y1_4 else f_X6_leader_L4 M  r (i + 1) y1_4 else y1_4
def f_X6_leader (M : Mem)  : Int32 := f_X6_leader_L4 M  (8 + 1 - 0) 0 ((-1) : Int32)
def f_X6_peer (M : Mem)  : Int32 × Mem := bnd (f_X6_select M  ) fun M_1 => bnd (f_X6_leader M_1  ) fun r_2 => bnd2 (f_X6_fine M_1  r_2) fun r_4 M_3 => (r_4, M_3)
def f_X6_synchronize_L194  : Nat → Nat → Mem → Int32 × Mem
  | 0, _, M_194 => (0, M_194)
  | r + 1, i, M_194 => if nI i < (8 : Int32) then bnd (sB M_194 5 (upd (gB M_194 5) (i) (0 : Int32))) fun M_27 => f_X6_synchronize_L194   r (i + 1) M_27  else ((1 : Int32), M_194)
def f_X6_synchronize_L194_2  : Nat → Nat → Mem → Int32 × Mem
  | 0, _, M_194 => (0, M_194)
  | r + 1, i, M_194 => if nI i < (8 : Int32) then bnd (sB M_194 5 (upd (gB M_194 5) (i) (0 : Int32))) fun M_41 => f_X6_synchronize_L194_2   r (i + 1) M_41  else ((0 : Int32), M_194)
def f_X6_synchronize_L194_3  : Nat → Nat → Mem → Int32 × Mem
  | 0, _, M_194 => (0, M_194)
  | r + 1, i, M_194 => if nI i < (8 : Int32) then bnd (sB M_194 5 (upd (gB M_194 5) (i) (0 : Int32))) fun M_56 => f_X6_synchronize_L194_3   r (i + 1) M_56  else ((1 : Int32), M_194)
def f_X6_synchronize_L194_4  : Nat → Nat → Mem → Int32 × Mem
  | 0, _, M_194 => (0, M_194)
  | r + 1, i, M_194 => if nI i < (8 : Int32) then bnd (sB M_194 5 (upd (gB M_194 5) (i) (0 : Int32))) fun M_70 => f_X6_synchronize_L194_4   r (i + 1) M_70  else ((0 : Int32), M_194)
def f_X6_synchronize_L194_5  : Nat → Nat → Mem → Int32 × Mem
  | 0, _, M_194 => (0, M_194)
  | r + 1, i, M_194 => if nI i < (8 : Int32) then bnd (sB M_194 5 (upd (gB M_194 5) (i) (0 : Int32))) fun M_85 => f_X6_synchronize_L194_5   r (i + 1) M_85  else ((1 : Int32), M_194)
def f_X6_synchronize_L194_6  : Nat → Nat → Mem → Int32 × Mem
  | 0, _, M_194 => (0, M_194)
  | r + 1, i, M_194 => if nI i < (8 : Int32) then bnd (sB M_194 5 (upd (gB M_194 5) (i) (0 : Int32))) fun M_99 => f_X6_synchronize_L194_6   r (i + 1) M_99  else ((0 : Int32), M_194)
def f_X6_synchronize (M : Mem)  : Int32 × Mem := bnd (f_X6_select M  ) fun M_1 => if gI M_1 (7) < ((2 : Int32) * gI M_1 (8)) then bnd2 (f_X6_refused M_1  (0 : Int32)) fun r_4 M_3 => bnd (f_X6_combined M_3  ) fun r_7 => bnd (f_X6_reading M_3  ) fun r_8 => bnd ((r_8 - gL M_3 (3))) fun x_9 => if (0 : Int32) < gI M_3 (4) then if (0 : Int64) < x_9 then bnd ((f_X6_held ((gI M_3 (2)).toInt64 + (((r_7 * (1000000 : Int64)) / x_9) / (4 : Int64))))) fun x_12 => bnd (sI M_3 (2) x_12) fun M_13 => if (128000 : Int64) < r_7 then bnd (sL M_13 (2) (0 : Int64)) fun M_16 => bnd (sL M_16 (1) (gL M_16 (1) + (r_7 * (1000000 : Int64)))) fun M_18 => bnd (sI M_18 (3) (gI M_18 (3) + (1 : Int32))) fun M_20 => bnd (sI M_20 (4) (gI M_20 (4) + (1 : Int32))) fun M_21 => bnd (f_X6_reading M_21  ) fun r_22 => bnd (sL M_21 (3) r_22) fun M_23 => bnd (f_X6_leader M_23  ) fun r_24 => bnd (sI M_23 (5) (gB M_23 1 (r_24).toNatClampNeg + (1 : Int32))) fun M_25 => f_X6_synchronize_L194   (8 + 1 - 0) 0 M_25  else bnd (sL M_13 (2) (r_7 * (1000000 : Int64))) fun M_30 => bnd (sL M_30 (1) (gL M_30 (1) + (0 : Int64))) fun M_32 => bnd (sI M_32 (3) (gI M_32 (3) + (0 : Int32))) fun M_34 => bnd (sI M_34 (4) (gI M_34 (4) + (1 : Int32))) fun M_35 => bnd (f_X6_reading M_35  ) fun r_36 => bnd (sL M_35 (3) r_36) fun M_37 => bnd (f_X6_leader M_37  ) fun r_38 => bnd (sI M_37 (5) (gB M_37 1 (r_38).toNatClampNeg + (1 : Int32))) fun M_39 => f_X6_synchronize_L194_2   (8 + 1 - 0) 0 M_39  else if (128000 : Int64) < r_7 then bnd (sL M_3 (2) (0 : Int64)) fun M_45 => bnd (sL M_45 (1) (gL M_45 (1) + (r_7 * (1000000 : Int64)))) fun M_47 => bnd (sI M_47 (3) (gI M_47 (3) + (1 : Int32))) fun M_49 => bnd (sI M_49 (4) (gI M_49 (4) + (1 : Int32))) fun M_50 => bnd (f_X6_reading M_50  ) fun r_51 => bnd (sL M_50 (3) r_51) fun M_52 => bnd (f_X6_leader M_52  ) fun r_53 => bnd (sI M_52 (5) (gB M_52 1 (r_53).toNatClampNeg + (1 : Int32))) fun M_54 => f_X6_synchronize_L194_3   (8 + 1 - 0) 0 M_54  else bnd (sL M_3 (2) (r_7 * (1000000 : Int64))) fun M_59 => bnd (sL M_59 (1) (gL M_59 (1) + (0 : Int64))) fun M_61 => bnd (sI M_61 (3) (gI M_61 (3) + (0 : Int32))) fun M_63 => bnd (sI M_63 (4) (gI M_63 (4) + (1 : Int32))) fun M_64 => bnd (f_X6_reading M_64  ) fun r_65 => bnd (sL M_64 (3) r_65) fun M_66 => bnd (f_X6_leader M_66  ) fun r_67 => bnd (sI M_66 (5) (gB M_66 1 (r_67).toNatClampNeg + (1 : Int32))) fun M_68 => f_X6_synchronize_L194_4   (8 + 1 - 0) 0 M_68  else if (128000 : Int64) < r_7 then bnd (sL M_3 (2) (0 : Int64)) fun M_74 => bnd (sL M_74 (1) (gL M_74 (1) + (r_7 * (1000000 : Int64)))) fun M_76 => bnd (sI M_76 (3) (gI M_76 (3) + (1 : Int32))) fun M_78 => bnd (sI M_78 (4) (gI M_78 (4) + (1 : Int32))) fun M_79 => bnd (f_X6_reading M_79  ) fun r_80 => bnd (sL M_79 (3) r_80) fun M_81 => bnd (f_X6_leader M_81  ) fun r_82 => bnd (sI M_81 (5) (gB M_81 1 (r_82).toNatClampNeg + (1 : Int32))) fun M_83 => f_X6_synchronize_L194_5   (8 + 1 - 0) 0 M_83  else bnd (sL M_3 (2) (r_7 * (1000000 : Int64))) fun M_88 => bnd (sL M_88 (1) (gL M_88 (1) + (0 : Int64))) fun M_90 => bnd (sI M_90 (3) (gI M_90 (3) + (0 : Int32))) fun M_92 => bnd (sI M_92 (4) (gI M_92 (4) + (1 : Int32))) fun M_93 => bnd (f_X6_reading M_93  ) fun r_94 => bnd (sL M_93 (3) r_94) fun M_95 => bnd (f_X6_leader M_95  ) fun r_96 => bnd (sI M_95 (5) (gB M_95 1 (r_96).toNatClampNeg + (1 : Int32))) fun M_97 => f_X6_synchronize_L194_6   (8 + 1 - 0) 0 M_97  else bnd2 (f_X6_refused M_1  (1 : Int32)) fun r_102 M_101 => ((0 : Int32), M_101)
def f_X6_stratum (M : Mem)  : Int32 × Mem := bnd2 (f_X6_fine M  (gI M (5))) fun r_2 M_1 => (r_2, M_1)
def f_X6_steps (M : Mem)  : Int32 × Mem := bnd2 (f_X6_fine M  (gI M (3))) fun r_2 M_1 => (r_2, M_1)
def f_X6_synchronizations (M : Mem)  : Int32 × Mem := bnd2 (f_X6_fine M  (gI M (4))) fun r_2 M_1 => (r_2, M_1)
