/-! the answers of the selection's calls; synchronize keeps the relation -/
theorem set_all : ∀ b0 b1 b2 b3 b4 b5 b6 b7 : Bool, (((((((((0 : Int32) + (if b0 then (1 : Int32) <<< (nI 0 &&& 31) else 0)) + (if b1 then (1 : Int32) <<< (nI 1 &&& 31) else 0)) + (if b2 then (1 : Int32) <<< (nI 2 &&& 31) else 0)) + (if b3 then (1 : Int32) <<< (nI 3 &&& 31) else 0)) + (if b4 then (1 : Int32) <<< (nI 4 &&& 31) else 0)) + (if b5 then (1 : Int32) <<< (nI 5 &&& 31) else 0)) + (if b6 then (1 : Int32) <<< (nI 6 &&& 31) else 0)) + (if b7 then (1 : Int32) <<< (nI 7 &&& 31) else 0)) = nI ((if b0 then 1 else 0) + (if b1 then 2 else 0) + (if b2 then 4 else 0) + (if b3 then 8 else 0) + (if b4 then 16 else 0) + (if b5 then 32 else 0) + (if b6 then 64 else 0) + (if b7 then 128 else 0)) := by decide +kernel
theorem bits_all : ∀ b0 b1 b2 b3 b4 b5 b6 b7 : Bool, ∀ e, e < 32 → bt (nI ((if b0 then 1 else 0) + (if b1 then 2 else 0) + (if b2 then 4 else 0) + (if b3 then 8 else 0) + (if b4 then 16 else 0) + (if b5 then 32 else 0) + (if b6 then 64 else 0) + (if b7 then 128 else 0))) e = ([b0, b1, b2, b3, b4, b5, b6, b7].getD e false) := by decide +kernel
theorem bits_hi : ∀ b0 b1 b2 b3 b4 b5 b6 b7 : Bool, ∀ e, e < 32 → 8 ≤ e → bt (nI ((if b0 then 1 else 0) + (if b1 then 2 else 0) + (if b2 then 4 else 0) + (if b3 then 8 else 0) + (if b4 then 16 else 0) + (if b5 then 32 else 0) + (if b6 then 64 else 0) + (if b7 then 128 else 0))) e = false := by decide +kernel
def sg (M : Mem) (a e : Nat) : Bool := decide (¬ gB M a e = 0)
theorem set_step {M : Mem} {a r i : Nat} {y : Int32} (hi : i < 8) : f_X6_set_L4 M a (r + 1) i y = f_X6_set_L4 M a r (i + 1) (y + (if sg M a i then (1 : Int32) <<< (nI i &&& 31) else 0)) := by
  rw [f_X6_set_L4, if_pos (show nI i < 8 from nI_lt (b := 8) hi (by decide)), sg]
  by_cases c : gB M a i = 0
  · rw [if_pos c, bnd_e, decide_eq_false (fun q => q c), if_neg (by decide)]
  · rw [if_neg c, bnd_e, decide_eq_true c, if_pos rfl]
theorem set_spec {M : Mem} {a : Nat} : B8 (f_X6_set M a) ∧ ∀ e, e < 8 → bt (f_X6_set M a) e = sg M a e := by
  have e1 : f_X6_set M a = nI ((if sg M a 0 then 1 else 0) + (if sg M a 1 then 2 else 0) + (if sg M a 2 then 4 else 0) + (if sg M a 3 then 8 else 0) + (if sg M a 4 then 16 else 0) + (if sg M a 5 then 32 else 0) + (if sg M a 6 then 64 else 0) + (if sg M a 7 then 128 else 0)) := by
    rw [f_X6_set]
    show f_X6_set_L4 M a 9 0 0 = _
    rw [set_step (by omega), set_step (by omega), set_step (by omega), set_step (by omega), set_step (by omega), set_step (by omega), set_step (by omega), set_step (by omega), f_X6_set_L4, if_neg (by decide)]
    exact set_all _ _ _ _ _ _ _ _
  have hb := bits_all (sg M a 0) (sg M a 1) (sg M a 2) (sg M a 3) (sg M a 4) (sg M a 5) (sg M a 6) (sg M a 7)
  constructor
  · intro e he
    by_cases h32 : e < 32
    · rw [e1]; exact bits_hi _ _ _ _ _ _ _ _ e h32 he
    · exact b_big (by omega)
  · intro e he
    rw [e1, hb e (by omega)]
    rcases (show e = 0 ∨ e = 1 ∨ e = 2 ∨ e = 3 ∨ e = 4 ∨ e = 5 ∨ e = 6 ∨ e = 7 by omega) with rfl | rfl | rfl | rfl | rfl | rfl | rfl | rfl <;> rfl
theorem set_of {x : Int32} {M : Mem} {a : Nat} (h : B8 x) (hb : ∀ e, e < 8 → (bt x e = true ↔ ¬ gB M a e = 0)) : x = f_X6_set M a := by
  obtain ⟨s1, s2⟩ := set_spec (M := M) (a := a)
  refine B8_ext h s1 (fun e he => ?_)
  rw [s2 e he, sg]
  by_cases c : bt x e = true
  · rw [c, decide_eq_true ((hb e he).mp c)]
  · rw [decide_eq_false (fun q => c ((hb e he).mpr q))]
    simpa using c
theorem kp_19 {Mc Mm : Mem} (n : NI Mm) (w : WFm Mm) (h : RR Mc Mm) : (f_X5_agreement Mc).1 = (f_X6_agreement Mm).1 := by
  obtain ⟨-, -, -, -, -, e8, -⟩ := sel_both n w h
  have hK := (sel_ok n w).1
  simp -implicitDefEqProofs (disch := decide) only [f_X5_agreement, f_X3_agreed, f_X6_agreement, bnd_e, bnd2_e, fine_e]
  rw [e8, hK.2.2.2.1]
theorem maj_e {Mc Mm M N : Mem} (h : SEL Mc Mm M N) : f_X3_isMajority M = if gI N 7 < 2 * gI N 8 then 1 else 0 := by
  obtain ⟨-, -, -, -, -, e8, e7, -⟩ := h
  simp -implicitDefEqProofs (disch := decide) only [f_X3_isMajority, f_X3_agreed, bnd_e, bnd2_e, e8, e7]
theorem kp_20 {Mc Mm : Mem} (n : NI Mm) (w : WFm Mm) (h : RR Mc Mm) : (f_X5_hasMajority Mc).1 = (f_X6_hasMajority Mm).1 := by
  have n0 : NI (sI Mm 0 0) := NI_0 n
  have w0 : WFm (sI Mm 0 0) := WFm_sI w (by decide)
  have hS := sel_both n0 w0 (RR_0 (v := 0) h)
  have hK := (sel_ok n0 w0).1
  have e := maj_e hS
  rw [hK.2.2.1, hK.2.2.2.1] at e
  simp -implicitDefEqProofs (disch := decide) only [f_X5_hasMajority, f_X6_hasMajority, bnd_e, bnd2_e, e]
  by_cases c : gI (f_X6_intersect (sI Mm 0 0)) 7 < 2 * gI (f_X6_intersect (sI Mm 0 0)) 8
  · rw [if_pos c, if_pos c]
  · rw [if_neg c, if_neg c]
theorem kp_21 {Mc Mm : Mem} (n : NI Mm) (w : WFm Mm) (h : RR Mc Mm) : (f_X5_agreeing Mc).1 = (f_X6_agreeing Mm).1 := by
  obtain ⟨-, -, -, b9, hA, -⟩ := sel_both n w h
  have hK := (sel_ok n w).1
  simp -implicitDefEqProofs (disch := decide) only [f_X5_agreeing, f_X3_agreeingBits, f_X6_agreeing, bnd_e, bnd2_e, fine_e]
  exact set_of b9 (fun e he => by rw [← hK.2.2.2.2.2.2]; exact hA e he)
theorem kp_24 {Mc Mm : Mem} (n : NI Mm) (w : WFm Mm) (h : RR Mc Mm) : (f_X5_survivors Mc).1 = (f_X6_survivors Mm).1 := by
  obtain ⟨-, -, hS, -⟩ := sel_both n w h
  simp -implicitDefEqProofs (disch := decide) only [f_X5_survivors, f_X3_survivorBits, f_X6_survivors, bnd_e, bnd2_e, fine_e]
  exact set_of hS.2.2.1 hS.2.2.2.1
theorem sfs_0 {M : Mem} (h : gI (f_X5_select M) 8 = 0) : f_X5_selectFromSome M = (2, f_X5_select M) := by
  simp -implicitDefEqProofs (disch := decide) only [f_X5_selectFromSome, f_X3_isEmpty, bnd_e, bnd2_e, if_pos h]
  rw [if_neg (by decide)]
theorem sfs_1 {M : Mem} (h : ¬ gI (f_X5_select M) 8 = 0) : f_X5_selectFromSome M = (0, f_X5_select M) := by
  simp -implicitDefEqProofs (disch := decide) only [f_X5_selectFromSome, f_X3_isEmpty, bnd_e, bnd2_e, if_neg h, if_true]
theorem thv_no {β : Type} {M : Mem} {n : Nat} {f : Nat → Mem → β} {g : Mem → β} (hn : n ≠ 0) : thv (n, M) f g = f n M := by rw [thv, if_neg hn]
theorem thv_yes {β : Type} {M : Mem} {f : Nat → Mem → β} {g : Mem → β} : thv (0, M) f g = g M := by rw [thv, if_pos rfl]
theorem kp_22 {Mc Mm : Mem} (n : NI Mm) (w : WFm Mm) (h : RR Mc Mm) : cmpN (fun n => if n = 2 then 1 else 0) (f_X5_low Mc) (f_X6_low Mm) := by
  obtain ⟨-, -, -, -, -, -, -, e0, eL⟩ := sel_both n w h
  have hK := (sel_ok n w).1
  rw [hK.2.2.1] at e0 eL
  by_cases c : gI (f_X6_intersect Mm) 7 = 0
  · have g1 : f_X5_low Mc = (2, 0, f_X5_select Mc) := by rw [f_X5_low, sfs_0 (e0.mpr c), thv_no (by decide)]
    have g2 : f_X6_low Mm = (0, sI (f_X6_intersect Mm) 0 1) := by simp -implicitDefEqProofs (disch := decide) only [f_X6_low, bnd_e, bnd2_e, ref_e, if_pos c]
    rw [g1, g2]; exact cN_thr (by decide) (by decide)
  · have g1 : f_X5_low Mc = (0, gL (f_X5_select Mc) 4, f_X5_select Mc) := by rw [f_X5_low, sfs_1 (fun q => c (e0.mp q)), thv_yes, bnd_e, f_X3_lowEnd]
    have g2 : f_X6_low Mm = (gL (f_X6_intersect Mm) 4, sI (f_X6_intersect Mm) 0 0) := by simp -implicitDefEqProofs (disch := decide) only [f_X6_low, bnd_e, bnd2_e, ref_e, if_neg c, gL_sI]
    rw [g1, g2]
    exact cN_ok (by simp -implicitDefEqProofs (disch := decide) only [gL_eq, gL_ne, gI_eq, gI_ne, gB_eq, gB_ne, gJ_eq, gJ_ne, gL_sI, gI_sL, gI_sB, gI_sJ, gL_sB, gL_sJ, gB_sI, gB_sL, gB_sJ, gJ_sI, gJ_sL, gJ_sB]) (by rw [(eL c).1, hK.2.2.2.2.1])
theorem kp_23 {Mc Mm : Mem} (n : NI Mm) (w : WFm Mm) (h : RR Mc Mm) : cmpN (fun n => if n = 2 then 1 else 0) (f_X5_high Mc) (f_X6_high Mm) := by
  obtain ⟨-, -, -, -, -, -, -, e0, eL⟩ := sel_both n w h
  have hK := (sel_ok n w).1
  rw [hK.2.2.1] at e0 eL
  by_cases c : gI (f_X6_intersect Mm) 7 = 0
  · have g1 : f_X5_high Mc = (2, 0, f_X5_select Mc) := by rw [f_X5_high, sfs_0 (e0.mpr c), thv_no (by decide)]
    have g2 : f_X6_high Mm = (0, sI (f_X6_intersect Mm) 0 1) := by simp -implicitDefEqProofs (disch := decide) only [f_X6_high, bnd_e, bnd2_e, ref_e, if_pos c]
    rw [g1, g2]; exact cN_thr (by decide) (by decide)
  · have g1 : f_X5_high Mc = (0, gL (f_X5_select Mc) 5, f_X5_select Mc) := by rw [f_X5_high, sfs_1 (fun q => c (e0.mp q)), thv_yes, bnd_e, f_X3_highEnd]
    have g2 : f_X6_high Mm = (gL (f_X6_intersect Mm) 5, sI (f_X6_intersect Mm) 0 0) := by simp -implicitDefEqProofs (disch := decide) only [f_X6_high, bnd_e, bnd2_e, ref_e, if_neg c, gL_sI]
    rw [g1, g2]
    exact cN_ok (by simp -implicitDefEqProofs (disch := decide) only [gL_eq, gL_ne, gI_eq, gI_ne, gB_eq, gB_ne, gJ_eq, gJ_ne, gL_sI, gI_sL, gI_sB, gI_sJ, gL_sB, gL_sJ, gB_sI, gB_sL, gB_sJ, gJ_sI, gJ_sL, gJ_sB]) (by rw [(eL c).2, hK.2.2.2.2.2.1])
/-! the combined offset -/
theorem d1_i {d : Int64} (hd : 0 ≤ d.toInt ∧ d.toInt ≤ 1000000000000) : (0 : Int64) < d + 1 := by
  rw [l_lt, l_add (by rw [show (1 : Int64).toInt = 1 by decide]; omega), show (1 : Int64).toInt = 1 by decide, show (0 : Int64).toInt = 0 by decide]
  omega
def wgt (d : Int64) : Int64 := if 1000000 / (d + 1) < 1 then 1 else 1000000 / (d + 1)
theorem wgt_rng {d : Int64} (hd : 0 ≤ d.toInt ∧ d.toInt ≤ 1000000000000) : 1 ≤ (wgt d).toInt ∧ (wgt d).toInt ≤ 1000000 := by
  have hw := w_num hd
  unfold wgt
  by_cases c : (1000000 : Int64) / (d + 1) < 1
  · rw [if_pos c]; decide
  · rw [if_neg c]; exact ⟨wt_lo c, hw.1⟩
theorem co_loop {Mm M N : Mem} (n : NI Mm) (w : WFm Mm) (h : SV Mm M N) (hs : ∃ j, j < 8 ∧ ¬ gB N 7 j = 0) : ∀ (r i : Nat) (z y : Int64), i + r = 9 → i ≤ 8 → (0 ≤ z.toInt ∧ z.toInt ≤ 1000000 * (i : Int)) → ((∃ j, j < i ∧ ¬ gB N 7 j = 0) → 0 < z.toInt) → f_X3_weightedOffset_L7 M r i z y = f_X6_combined_L7 N r i z y := by
  obtain ⟨hR, hE, b10, hA, hC⟩ := h
  intro r
  induction r with
  | zero => intro i z y h1 h2; omega
  | succ r ih =>
    intro i z y h1 h2 hz hp
    rw [f_X3_weightedOffset_L7, f_X6_combined_L7]
    by_cases hc : i < 8
    · have h8 : nI i < (8 : Int32) := nI_lt (b := 8) hc (by decide)
      rw [if_pos h8, if_pos h8, bnd_e, ct3 (by omega)]
      by_cases c : bt (gI M 10) i = true
      · have hcn := hC i hc c
        obtain ⟨c1, c2⟩ := cnd_i hcn
        have hd := dist_rng n w c1 c2
        have hw := wgt_rng hd
        have ew : f_X3_weight M (nI i) = wgt (f_X6_distanceOf Mm i) := by
          rw [f_X3_weight, bnd_e, bnd_e, get_n hc, (hR.2.2 i hc hcn).2.1, if_pos (d1_i hd), bnd_e, wgt]
        have eo : f_X2_get M 0 (nI i) = offM Mm i := by rw [get_n hc, (hR.2.2 i hc hcn).1]
        rw [if_pos c, if_neg (show ¬ (1 : Int32) = 0 by decide), if_neg ((hA i hc).mp c)]
        rw [bnd_e, bnd_e, bnd_e, bnd_e, bnd_e, ew, eo, bnd_e, bnd_e, dist_eq hE]
        have ez : (z + wgt (f_X6_distanceOf Mm i)).toInt = z.toInt + (wgt (f_X6_distanceOf Mm i)).toInt := l_add (by omega)
        have I := ih (i + 1) (z + wgt (f_X6_distanceOf Mm i)) (y + wgt (f_X6_distanceOf Mm i) * offM Mm i) (by omega) (by omega) ⟨by rw [ez]; omega, by rw [ez]; push_cast; omega⟩ (fun _ => by rw [ez]; omega)
        rw [I]
        unfold wgt
        by_cases d : (1000000 : Int64) / (f_X6_distanceOf Mm i + 1) < 1
        · rw [if_pos d, if_pos d, bnd_e, bnd_e, bnd_e, off_N hE]
        · rw [if_neg d, if_neg d, bnd_e, bnd_e, bnd_e, off_N hE]
      · have c0 : gB N 7 i = 0 := eq0_of (hA i hc) c
        rw [if_neg c, if_pos rfl, if_pos c0]
        exact ih (i + 1) z y (by omega) (by omega) ⟨hz.1, by push_cast; omega⟩ (fun ⟨j, hj, hb⟩ => hp ⟨j, by
          by_cases e : j = i
          · rw [e] at hb; exact absurd c0 hb
          · omega, hb⟩)
    · have e : i = 8 := by omega
      subst e
      have hz0 : (0 : Int64) < z := by rw [l_lt, show (0 : Int64).toInt = 0 by decide]; exact hp hs
      have hx : ¬ nI 8 < (8 : Int32) := by decide
      rw [if_neg hx, if_neg hx, if_pos hz0, bnd_e, bnd_e, fl_dn (hp hs)]
theorem co_eq {Mm M N : Mem} (n : NI Mm) (w : WFm Mm) (h : SV Mm M N) (hs : ∃ j, j < 8 ∧ ¬ gB N 7 j = 0) : f_X3_weightedOffset M = f_X6_combined N := by
  rw [f_X3_weightedOffset, f_X6_combined]
  exact co_loop n w h hs _ _ _ _ (by omega) (by omega) ⟨by decide, by decide⟩ (fun ⟨j, hj, _⟩ => absurd hj (Nat.not_lt_zero j))
theorem SV_0 {Mm M N : Mem} {v : Int32} (h : SV Mm M N) : SV Mm M (sI N 0 v) := ⟨h.1, h.2.1.tr EQ_0, h.2.2.1, fun e he => by rw [gB_sI]; exact h.2.2.2.1 e he, h.2.2.2.2⟩
theorem kp_25 {Mc Mm : Mem} (n : NI Mm) (w : WFm Mm) (h : RR Mc Mm) : cmpN (fun n => if n = 2 then 1 else 0) (f_X5_combinedOffset Mc) (f_X6_combinedOffset Mm) := by
  obtain ⟨-, -, hS, -, -, -, -, e0, -⟩ := sel_both n w h
  by_cases c : gI (f_X6_select Mm) 7 = 0
  · have g1 : f_X5_combinedOffset Mc = (2, 0, f_X5_select Mc) := by rw [f_X5_combinedOffset, sfs_0 (e0.mpr c), thv_no (by decide)]
    have g2 : f_X6_combinedOffset Mm = (0, sI (f_X6_select Mm) 0 1) := by simp -implicitDefEqProofs (disch := decide) only [f_X6_combinedOffset, bnd_e, bnd2_e, ref_e, if_pos c]
    rw [g1, g2]; exact cN_thr (by decide) (by decide)
  · have hs := (DP_of n w).1 _ rfl c
    have g1 : f_X5_combinedOffset Mc = (0, f_X3_weightedOffset (f_X5_select Mc), f_X5_select Mc) := by rw [f_X5_combinedOffset, sfs_1 (fun q => c (e0.mp q)), thv_yes, bnd_e]
    have g2 : f_X6_combinedOffset Mm = (f_X6_combined (sI (f_X6_select Mm) 0 0), sI (f_X6_select Mm) 0 0) := by simp -implicitDefEqProofs (disch := decide) only [f_X6_combinedOffset, bnd_e, bnd2_e, ref_e, if_neg c]
    rw [g1, g2]
    exact cN_ok (by simp -implicitDefEqProofs (disch := decide) only [gL_eq, gL_ne, gI_eq, gI_ne, gB_eq, gB_ne, gJ_eq, gJ_ne, gL_sI, gI_sL, gI_sB, gI_sJ, gL_sB, gL_sJ, gB_sI, gB_sL, gB_sJ, gJ_sI, gJ_sL, gJ_sB]) (co_eq n w (SV_0 hS) (by rw [gB_sI]; exact hs))
/-! the peer -/
theorem t64_eq {a b : Int32} : a.toInt64 = b.toInt64 ↔ a = b := ⟨fun q => i_eq (by have := congrArg Int64.toInt q; rw [Int32.toInt_toInt64, Int32.toInt_toInt64] at this; exact this), fun q => by rw [q]⟩
theorem t64_lt {a b : Int32} : a.toInt64 < b.toInt64 ↔ a < b := by rw [l_lt, i_lt, Int32.toInt_toInt64, Int32.toInt_toInt64]
theorem pf_loop {Mm M N : Mem} (h : SV Mm M N) : ∀ r i y, i + r = 9 → i ≤ 8 → ((y = -1 ∧ ∀ e, e < i → bt (gI M 10) e = false) ∨ ∃ s, s < 8 ∧ bt (gI M 10) s = true ∧ y = nI s) → f_X3_preferred_L4 M r i y = f_X6_leader_L4 N r i y := by
  obtain ⟨hR, hE, b10, hA, hC⟩ := h
  intro r
  induction r with
  | zero => intro i y h1 h2; omega
  | succ r ih =>
    intro i y h1 h2 hy
    rw [f_X3_preferred_L4, f_X6_leader_L4]
    by_cases hc : i < 8
    · have h8 : nI i < (8 : Int32) := nI_lt (b := 8) hc (by decide)
      rw [if_pos h8, if_pos h8, bnd_e, ct3 (by omega)]
      by_cases c : bt (gI M 10) i = true
      · have hcn := hC i hc c
        rw [if_pos c, if_neg (show ¬ (1 : Int32) = 0 by decide), if_neg ((hA i hc).mp c)]
        rcases hy with ⟨y1, -⟩ | ⟨s, s8, sb, y1⟩
        · rw [if_pos y1, if_pos y1]
          exact ih _ _ (by omega) (by omega) (Or.inr ⟨i, hc, c, rfl⟩)
        · have hsn := hC s s8 sb
          have ey : y.toNatClampNeg = s := by rw [y1, nI_clamp (by omega)]
          have yn : ¬ y = -1 := by rw [y1]; exact nI_m1 s8
          rw [if_neg yn, if_neg yn, ey]
          have hB1 : gB N 1 = gB Mm 1 := hE.2.2.1 1 (by decide) (by decide)
          have better : f_X3_isBetter M (nI i) y = if gB N 1 i < gB N 1 s then 1 else if gB N 1 i = gB N 1 s then (if f_X6_distanceOf N i < f_X6_distanceOf N s then 1 else 0) else 0 := by
            rw [y1, hB1, dist_eq hE, dist_eq hE]
            simp -implicitDefEqProofs (disch := decide) only [f_X3_isBetter, bnd_e, bnd2_e, get_n hc, get_n s8]
            rw [(hR.2.2 i hc hcn).2.2.2, (hR.2.2 s s8 hsn).2.2.2, (hR.2.2 i hc hcn).2.1, (hR.2.2 s s8 hsn).2.1]
            by_cases d1 : gB Mm 1 i = gB Mm 1 s
            · rw [if_pos (t64_eq.mpr d1), if_neg (show ¬ gB Mm 1 i < gB Mm 1 s from fun q => by rw [i_lt, d1] at q; omega), if_pos d1]
            · rw [if_neg (fun q => d1 (t64_eq.mp q)), if_neg d1]
              by_cases d2 : gB Mm 1 i < gB Mm 1 s
              · rw [if_pos (t64_lt.mpr d2), if_pos d2]
              · rw [if_neg (fun q => d2 (t64_lt.mp q)), if_neg d2]
          have n10 : ¬ (1 : Int32) = 0 := by decide
          have yes := ih (i + 1) (nI i) (by omega) (by omega) (Or.inr ⟨i, hc, c, rfl⟩)
          have no := ih (i + 1) y (by omega) (by omega) (Or.inr ⟨s, s8, sb, y1⟩)
          rw [bnd_e, better]
          by_cases d2 : gB N 1 i < gB N 1 s
          · rw [if_pos d2, if_neg n10, if_pos d2]; exact yes
          · rw [if_neg d2, if_neg d2]
            by_cases d1 : gB N 1 i = gB N 1 s
            · rw [if_pos d1, if_pos d1, bnd_e, bnd_e]
              by_cases d3 : f_X6_distanceOf N i < f_X6_distanceOf N s
              · rw [if_pos d3, if_neg n10, if_pos d3]; exact yes
              · rw [if_neg d3, if_pos rfl, if_neg d3]; exact no
            · rw [if_neg d1, if_pos rfl, if_neg d1]; exact no
      · have c0 : gB N 7 i = 0 := eq0_of (hA i hc) c
        rw [if_neg c, if_pos rfl, if_pos c0]
        refine ih _ _ (by omega) (by omega) ?_
        rcases hy with ⟨y1, y2⟩ | q
        · left
          refine ⟨y1, fun e he => ?_⟩
          by_cases ee : e = i
          · rw [ee]; simpa using c
          · exact y2 e (by omega)
        · exact Or.inr q
    · have e : i = 8 := by omega
      subst e
      rw [if_neg (by decide), if_neg (by decide)]
theorem pf_eq {Mm M N : Mem} (h : SV Mm M N) : f_X3_preferred M = f_X6_leader N := by
  simp -implicitDefEqProofs (disch := decide) only [f_X3_preferred, f_X6_leader, bnd_e, bnd2_e]
  exact pf_loop h _ _ _ (by omega) (by omega) (Or.inl ⟨rfl, fun e he => absurd he (Nat.not_lt_zero e)⟩)
theorem kp_26 {Mc Mm : Mem} (n : NI Mm) (w : WFm Mm) (h : RR Mc Mm) : (f_X5_peer Mc).1 = (f_X6_peer Mm).1 := by
  obtain ⟨-, -, hS, -⟩ := sel_both n w h
  simp -implicitDefEqProofs (disch := decide) only [f_X5_peer, f_X6_peer, bnd_e, bnd2_e, fine_e]
  exact pf_eq hS
