/-! the class's intersection answers what the reference's fold answers -/
def HB (Mm : Mem) (x : Int64) (e : Nat) : Bool := cnd Mm e && decide (¬ f_X6_has Mm e x = 0)
theorem ab_i {v : Int64} (h : -9223372036854775807 ≤ v.toInt) : (ab v).toInt = if v.toInt < 0 then -v.toInt else v.toInt := by rw [← ab_size, size_i h]
theorem iv_num {x o d : Int} : (¬ d < (if x - o < 0 then -(x - o) else x - o)) ↔ (¬ x < o - d ∧ ¬ o + d < x) := by split <;> omega
theorem iv_eq {x o d : Int64} (hx : -2000000000000 ≤ x.toInt ∧ x.toInt ≤ 2000000000000) (ho : -4000000000 ≤ o.toInt ∧ o.toInt ≤ 4000000000) (hd : 0 ≤ d.toInt ∧ d.toInt ≤ 1000000000000) : (¬ d < ab (x - o)) ↔ (¬ x < o - d ∧ ¬ o + d < x) := by
  have e1 : (x - o).toInt = x.toInt - o.toInt := l_sub (by omega)
  have e2 : (o - d).toInt = o.toInt - d.toInt := l_sub (by omega)
  have e3 : (o + d).toInt = o.toInt + d.toInt := l_add (by omega)
  have e4 : (ab (x - o)).toInt = if x.toInt - o.toInt < 0 then -(x.toInt - o.toInt) else x.toInt - o.toInt := by rw [ab_i (by rw [e1]; omega), e1]
  rw [l_lt, l_lt, l_lt, e2, e3, e4]
  exact iv_num
theorem cnd_i {Mm : Mem} {e : Nat} (h : cnd Mm e = true) : e < sn Mm ∧ 0 < kn Mm e := of_decide_eq_true h
theorem off_rng {Mm : Mem} (n : NI Mm) (w : WFm Mm) {e : Nat} (h : cnd Mm e = true) : -4000000000 ≤ (offM Mm e).toInt ∧ (offM Mm e).toInt ≤ 4000000000 := by
  obtain ⟨h1, h2⟩ := cnd_i h
  have h8 : e < 8 := Nat.lt_of_lt_of_le h1 (WFs w).1
  have hB := (best_spec h8 (WFk w h8).1).2.2 h2
  exact NI_off n h1 hB.1.1 hB.1.2
theorem frm_rng {Mm : Mem} (n : NI Mm) (w : WFm Mm) {e : Nat} (h : cnd Mm e = true) : f_X6_from Mm e = offM Mm e - f_X6_distanceOf Mm e ∧ (-2000000000000 ≤ (f_X6_from Mm e).toInt ∧ (f_X6_from Mm e).toInt ≤ 2000000000000) := by
  obtain ⟨h1, h2⟩ := cnd_i h
  have ho := off_rng n w h
  have hd := dist_rng n w h1 h2
  have e1 : f_X6_from Mm e = offM Mm e - f_X6_distanceOf Mm e := by rw [from_e, offM]
  refine ⟨e1, ?_⟩
  rw [e1, l_sub (by omega)]
  omega
/-- what the class's rows hold for the candidates -/
def ROW (Mm M : Mem) : Prop := B8 (gI M 8) ∧ (∀ e, e < 8 → bt (gI M 8) e = cnd Mm e) ∧ ∀ e, e < 8 → cnd Mm e = true → gJ M 0 e = offM Mm e ∧ gJ M 1 e = f_X6_distanceOf Mm e ∧ gJ M 2 e = f_X6_jitterOf Mm e ∧ gJ M 3 e = (gB Mm 1 e).toInt64
theorem ROW_of {Mc Mm M : Mem} (h : ENT Mc Mm M (sn Mm)) : ROW Mm M := by
  obtain ⟨-, -, -, -, -, b8, bb, vv⟩ := h
  refine ⟨b8, fun e he => ?_, fun e he hc => vv e (cnd_i hc).1 hc⟩
  rw [bb e he]
  by_cases c : e < sn Mm
  · rw [decide_eq_true c, Bool.true_and]
  · rw [decide_eq_false c, Bool.false_and]
    exact (decide_eq_false (fun q => c q.1)).symm
theorem ROW_mv {Mm M M' : Mem} (h : ROW Mm M) (h8 : gI M' 8 = gI M 8) (hJ : ∀ r, r < 4 → gJ M' r = gJ M r) : ROW Mm M' := by
  obtain ⟨b8, bb, vv⟩ := h
  refine ⟨by rw [h8]; exact b8, fun e he => by rw [h8]; exact bb e he, fun e he hc => ?_⟩
  rw [hJ 0 (by omega), hJ 1 (by omega), hJ 2 (by omega), hJ 3 (by omega)]
  exact vv e he hc
theorem has_HB {Mm : Mem} (n : NI Mm) (w : WFm Mm) {x : Int64} (hx : -2000000000000 ≤ x.toInt ∧ x.toInt ≤ 2000000000000) {e : Nat} (h : cnd Mm e = true) : (¬ f_X6_distanceOf Mm e < ab (x - offM Mm e)) ↔ ¬ f_X6_has Mm e x = 0 := by
  obtain ⟨h1, h2⟩ := cnd_i h
  have h8 : e < 8 := Nat.lt_of_lt_of_le h1 (WFs w).1
  rw [has_iff (WFk w h8).1, from_e, to_e]
  have := iv_eq hx (off_rng n w h) (dist_rng n w h1 h2)
  rw [this]
  exact ⟨fun q => ⟨h2, q⟩, fun q => q.2⟩
theorem iw_loop {Mm M : Mem} (n : NI Mm) (w : WFm Mm) (hR : ROW Mm M) {x : Int64} (hx : -2000000000000 ≤ x.toInt ∧ x.toInt ≤ 2000000000000) : ∀ r i y, i + r = 9 → i ≤ 8 → B8 y → (∀ e, e < 8 → bt y e = (decide (e < i) && HB Mm x e)) →
    B8 (f_X3_intervalsWith_L5 M x r i y) ∧ ∀ e, e < 8 → bt (f_X3_intervalsWith_L5 M x r i y) e = HB Mm x e := by
  obtain ⟨b8, bb, vv⟩ := hR
  intro r
  induction r with
  | zero => intro i y h1 h2; omega
  | succ r ih =>
    intro i y h1 h2 hy he
    rw [f_X3_intervalsWith_L5]
    by_cases hc : i < 8
    · rw [if_pos (show nI i < 8 from nI_lt (b := 8) hc (by decide)), bnd_e, ct3 (by omega), bb i hc]
      have skip : HB Mm x i = false → B8 (f_X3_intervalsWith_L5 M x r (i + 1) y) ∧ ∀ e, e < 8 → bt (f_X3_intervalsWith_L5 M x r (i + 1) y) e = HB Mm x e := fun hf =>
        ih (i + 1) y (by omega) (by omega) hy (fun e h8 => by
          rw [he e h8]
          by_cases ee : e = i
          · rw [ee, hf, Bool.and_false, Bool.and_false]
          · congr 1
            exact decide_eq_decide.mpr (by omega))
      by_cases c : cnd Mm i = true
      · rw [if_pos c, if_neg (by decide), bnd_e, bnd_e, bnd_e, get_n hc, get_n hc, (vv i hc c).1, (vv i hc c).2.1]
        have hh := has_HB n w hx c
        have ea : (if 0 < x - offM Mm i then x - offM Mm i else -(x - offM Mm i)) = ab (x - offM Mm i) := by rw [ab]
        rw [ea]
        by_cases d : f_X6_distanceOf Mm i < ab (x - offM Mm i)
        · rw [if_pos d]
          refine skip ?_
          rw [HB, decide_eq_false (fun q => hh.mpr q d), Bool.and_false]
        · rw [if_neg d, bnd_e]
          have ht : HB Mm x i = true := by rw [HB, c, decide_eq_true (hh.mp d)]; rfl
          refine ih (i + 1) _ (by omega) (by omega) (B8_set hy hc) (fun e h8 => ?_)
          rw [bt_set (by omega) (by omega), he e h8]
          by_cases ee : e = i
          · rw [ee, decide_eq_true (show i = i from rfl), Bool.or_true, decide_eq_true (show i < i + 1 by omega), ht]; rfl
          · rw [decide_eq_false ee, Bool.or_false]
            congr 1
            exact decide_eq_decide.mpr (by omega)
      · rw [if_neg c, if_pos rfl]
        refine skip ?_
        have c' : cnd Mm i = false := by simpa using c
        rw [HB, c', Bool.false_and]
    · have e : i = 8 := by omega
      subst e
      rw [if_neg (by decide)]
      refine ⟨hy, fun e h8 => ?_⟩
      rw [he e h8, decide_eq_true h8, Bool.true_and]
theorem hb_cv {Mm : Mem} (w : WFm Mm) {x : Int64} : ∀ i, i ≤ 8 → bc (HB Mm x) i = cvN Mm x (min i (sn Mm))
  | 0, _ => by rw [Nat.zero_min]; rfl
  | i + 1, hi => by
    have ih := hb_cv w (x := x) i (by omega)
    have hs := (WFs w).1
    rw [bc, ih]
    by_cases c : i < sn Mm
    · rw [show min (i + 1) (sn Mm) = i + 1 by omega, show min i (sn Mm) = i by omega, cvN]
      congr 1
      by_cases g : f_X6_has Mm i x = 0
      · rw [if_pos g, if_neg]
        rw [HB, decide_eq_false (fun q => q g), Bool.and_false]; decide
      · have hk := (has_iff (WFk w (j := i) (by omega)).1).mp g
        rw [if_neg g, if_pos]
        rw [HB, decide_eq_true g, cnd, decide_eq_true ⟨c, hk.1⟩]; rfl
    · rw [show min (i + 1) (sn Mm) = sn Mm by omega, show min i (sn Mm) = sn Mm by omega, if_neg]
      · omega
      · rw [HB, cnd, decide_eq_false (fun q => c q.1), Bool.false_and]; decide
theorem hb_cov {Mm : Mem} (w : WFm Mm) {x : Int64} : f_X6_covers Mm x = nI (bc (HB Mm x) 8) := by
  rw [cov_spec (WFs w).1, hb_cv w 8 (Nat.le_refl 8), show min 8 (sn Mm) = sn Mm by have := (WFs w).1; omega]
theorem bitc_of {x : Int32} {f : Nat → Bool} (h : B8 x) (hf : ∀ e, e < 8 → bt x e = f e) : f_J6_bitCount_0f7a4 x = nI (bc f 8) := by rw [bitc h, bc_congr 8 hf]
/-- the state of the class's fold beside the reference's -/
def CST (Mm M : Mem) (z : Nat × Int32 × Int64) : Prop := B8 (gI M 9) ∧ ((z.1 = 0 ∧ gI M 9 = 0 ∧ z.2.1 = 0) ∨ (0 < z.1 ∧ gL M 4 = z.2.2 ∧ (∀ e, e < 8 → bt (gI M 9) e = HB Mm z.2.2 e) ∧ z.2.1 = f_X6_covers Mm z.2.2))
theorem CST_cnt {Mm M : Mem} {z : Nat × Int32 × Int64} (w : WFm Mm) (h : CST Mm M z) : ∃ a, a ≤ 8 ∧ f_J6_bitCount_0f7a4 (gI M 9) = nI a ∧ z.2.1 = nI a ∧ (a = 0 → True) := by
  rcases h with ⟨b, ⟨h1, h2, h3⟩ | ⟨h1, h2, h3, h4⟩⟩
  · exact ⟨0, by omega, by rw [h2]; decide, by rw [h3]; rfl, fun _ => trivial⟩
  · exact ⟨bc (HB Mm z.2.2) 8, bc_le _ 8, bitc_of b h3, by rw [h4, hb_cov w], fun _ => trivial⟩
theorem try_step {Mm M : Mem} {z : Nat × Int32 × Int64} {i : Nat} (n : NI Mm) (w : WFm Mm) (hR : ROW Mm M) (hS : CST Mm M z) (hc : cnd Mm i = true) : CST Mm (f_X3_tryLowEnd M (f_X6_from Mm i)) (stp Mm i z) ∧ EC M (f_X3_tryLowEnd M (f_X6_from Mm i)) ∧ ROW Mm (f_X3_tryLowEnd M (f_X6_from Mm i)) ∧ gI (f_X3_tryLowEnd M (f_X6_from Mm i)) 10 = gI M 10 := by
  obtain ⟨c1, c2⟩ := cnd_i hc
  have hf := (frm_rng n w hc).2
  obtain ⟨i1, i2⟩ := iw_loop n w hR hf (8 + 1 - 0) 0 0 (by omega) (by omega) B8_0 (fun e _ => by rw [b_0, decide_eq_false (Nat.not_lt_zero e), Bool.false_and])
  have eI : f_X3_intervalsWith_L5 M (f_X6_from Mm i) (8 + 1 - 0) 0 0 = f_X3_intervalsWith M (f_X6_from Mm i) := by rw [f_X3_intervalsWith]
  rw [eI] at i1 i2
  have eb := bitc_of i1 i2
  obtain ⟨a, a8, ea, ez, -⟩ := CST_cnt w hS
  have ec := hb_cov w (x := f_X6_from Mm i)
  have b8 := bc_le (HB Mm (f_X6_from Mm i)) 8
  obtain ⟨s1, s2⟩ := nI_sub_lt b8 a8
  have hpos : 0 < bc (HB Mm (f_X6_from Mm i)) 8 := bc_pos (k := i) (by rw [HB, hc, decide_eq_true (own_in n w c1 c2)]; rfl) 8 (by have := (WFs w).1; omega)
  have lt1 : z.2.1 < f_X6_covers Mm (f_X6_from Mm i) ↔ a < bc (HB Mm (f_X6_from Mm i)) 8 := by rw [ez, ec]; exact nI_ltI (by omega) (by omega)
  have eq1 : f_X6_covers Mm (f_X6_from Mm i) = z.2.1 ↔ bc (HB Mm (f_X6_from Mm i)) 8 = a := by rw [ez, ec]; exact nI_eq (by omega) (by omega)
  have eE : EC M (f_X3_tryLowEnd M (f_X6_from Mm i)) := EC_try
  unfold stp
  rw [if_pos c2]
  -- the new state when this low end is taken
  have new : ∀ M', M' = sL (sI M 9 (f_X3_intervalsWith M (f_X6_from Mm i))) 4 (f_X6_from Mm i) → CST Mm M' (z.1 + 1, f_X6_covers Mm (f_X6_from Mm i), f_X6_from Mm i) ∧ EC M M' ∧ ROW Mm M' ∧ gI M' 10 = gI M 10 := by
    intro M' eM
    subst eM
    refine ⟨⟨by simp -implicitDefEqProofs (disch := decide) only [gL_eq, gL_ne, gI_eq, gI_ne, gB_eq, gB_ne, gJ_eq, gJ_ne, gL_sI, gI_sL, gI_sB, gI_sJ, gL_sB, gL_sJ, gB_sI, gB_sL, gB_sJ, gJ_sI, gJ_sL, gJ_sB]; exact i1, Or.inr ⟨Nat.succ_pos _, gL_eq, fun e he => by simp -implicitDefEqProofs (disch := decide) only [gL_eq, gL_ne, gI_eq, gI_ne, gB_eq, gB_ne, gJ_eq, gJ_ne, gL_sI, gI_sL, gI_sB, gI_sJ, gL_sB, gL_sJ, gB_sI, gB_sL, gB_sJ, gJ_sI, gJ_sL, gJ_sB]; exact i2 e he, rfl⟩⟩, (EC_sI (by omega)).tr (EC_sL (by omega)), ROW_mv hR (by simp -implicitDefEqProofs (disch := decide) only [gL_eq, gL_ne, gI_eq, gI_ne, gB_eq, gB_ne, gJ_eq, gJ_ne, gL_sI, gI_sL, gI_sB, gI_sJ, gL_sB, gL_sJ, gB_sI, gB_sL, gB_sJ, gJ_sI, gJ_sL, gJ_sB]) (fun r _ => by simp -implicitDefEqProofs (disch := decide) only [gL_eq, gL_ne, gI_eq, gI_ne, gB_eq, gB_ne, gJ_eq, gJ_ne, gL_sI, gI_sL, gI_sB, gI_sJ, gL_sB, gL_sJ, gB_sI, gB_sL, gB_sJ, gJ_sI, gJ_sL, gJ_sB]), by simp -implicitDefEqProofs (disch := decide) only [gL_eq, gL_ne, gI_eq, gI_ne, gB_eq, gB_ne, gJ_eq, gJ_ne, gL_sI, gI_sL, gI_sB, gI_sJ, gL_sB, gL_sJ, gB_sI, gB_sL, gB_sJ, gJ_sI, gJ_sL, gJ_sB]⟩
  have et : f_X3_tryLowEnd M (f_X6_from Mm i) = if a < bc (HB Mm (f_X6_from Mm i)) 8 then sL (sI M 9 (f_X3_intervalsWith M (f_X6_from Mm i))) 4 (f_X6_from Mm i) else if bc (HB Mm (f_X6_from Mm i)) 8 = a then (if f_X6_from Mm i < gL M 4 then sL (sI M 9 (f_X3_intervalsWith M (f_X6_from Mm i))) 4 (f_X6_from Mm i) else M) else M := by
    simp -implicitDefEqProofs (disch := decide) only [f_X3_tryLowEnd, bnd_e, bnd2_e, eb, ea]
    by_cases d1 : a < bc (HB Mm (f_X6_from Mm i)) 8
    · rw [if_pos d1, if_pos (s1.mpr d1)]
    · rw [if_neg d1, if_neg (fun q => d1 (s1.mp q))]
      by_cases d2 : bc (HB Mm (f_X6_from Mm i)) 8 = a
      · rw [if_pos d2, if_pos (s2.mpr d2)]
      · rw [if_neg d2, if_neg (fun q => d2 (s2.mp q))]
  rw [et]
  by_cases d1 : a < bc (HB Mm (f_X6_from Mm i)) 8
  · rw [if_pos d1, if_pos (lt1.mpr d1)]
    exact new _ rfl
  · rw [if_neg d1, if_neg (fun q => d1 (lt1.mp q))]
    have same : z.1 + 1 = z.1 + 1 ∧ CST Mm M (z.1 + 1, z.2.1, z.2.2) := by
      refine ⟨rfl, hS.1, Or.inr ?_⟩
      rcases hS.2 with ⟨h1, h2, h3⟩ | ⟨h1, h2, h3, h4⟩
      · exfalso
        have : a = 0 := by
          have := (nI_eq (a := a) (b := 0) (by omega) (by decide)).mp (ez.symm.trans h3)
          exact this
        omega
      · exact ⟨Nat.succ_pos _, h2, h3, h4⟩
    by_cases d2 : bc (HB Mm (f_X6_from Mm i)) 8 = a
    · rw [if_pos d2, if_pos (eq1.mpr d2)]
      have el : gL M 4 = z.2.2 := by
        rcases hS.2 with ⟨h1, h2, h3⟩ | ⟨h1, h2, h3, h4⟩
        · exfalso
          have : a = 0 := (nI_eq (a := a) (b := 0) (by omega) (by decide)).mp (ez.symm.trans h3)
          omega
        · exact h2
      rw [el]
      by_cases d3 : f_X6_from Mm i < z.2.2
      · rw [if_pos d3, if_pos d3]; exact new _ rfl
      · rw [if_neg d3, if_neg d3]; exact ⟨same.2, EC.rf, hR, rfl⟩
    · rw [if_neg d2, if_neg (fun q => d2 (eq1.mp q))]; exact ⟨same.2, EC.rf, hR, rfl⟩
/-! the high end -/
def FND (y3 : Int32) (y1 : Int64) (h : Int32 × Int64) : Prop := (y3 = 0 ∧ h.1 = 1) ∨ (y3 = 1 ∧ h.1 = 0 ∧ y1 = h.2)
theorem lu_loop {Mm M M1 : Mem} (hR : ROW Mm M) (hE : EQ Mm M1) (hA : ∀ e, e < 8 → (bt (gI M 9) e = true ↔ ¬ agv M1 e = 0)) (hC : ∀ e, e < 8 → bt (gI M 9) e = true → cnd Mm e = true) : ∀ r i y3 y1, i + r = 9 → i ≤ 8 → FND y3 y1 (hst M1 i) →
    ∃ y3', FND y3' (f_X3_leastUpperEnd_L7 M r i y3 y1) (hst M1 8) := by
  obtain ⟨b8, bb, vv⟩ := hR
  intro r
  induction r with
  | zero => intro i y3 y1 h1 h2; omega
  | succ r ih =>
    intro i y3 y1 h1 h2 hF
    rw [f_X3_leastUpperEnd_L7]
    by_cases hc : i < 8
    · rw [if_pos (show nI i < 8 from nI_lt (b := 8) hc (by decide)), bnd_e, bnd_e, bnd_e, bnd_e, get_n hc, get_n hc, ct3 (by omega)]
      by_cases c : bt (gI M 9) i = true
      · have ha := (hA i hc).mp c
        have hcn := hC i hc c
        have et : gJ M 0 i + gJ M 1 i = f_X6_to M1 i := by rw [(vv i hc hcn).1, (vv i hc hcn).2.1, to_eq hE, to_e, offM]
        have eh : hst M1 (i + 1) = (0, if (hst M1 i).1 = 0 then if f_X6_to M1 i < (hst M1 i).2 then f_X6_to M1 i else (hst M1 i).2 else f_X6_to M1 i) := by rw [hst, if_neg ha]
        rw [if_pos c, if_neg (by decide), et]
        rcases hF with ⟨f1, f2⟩ | ⟨f1, f2, f3⟩
        · rw [if_pos f1]
          refine ih (i + 1) _ _ (by omega) (by omega) (Or.inr ⟨rfl, ?_, ?_⟩)
          · rw [eh]
          · rw [eh, if_neg (by rw [f2]; decide)]
        · rw [if_neg (by rw [f1]; decide), f3]
          by_cases d : f_X6_to M1 i < (hst M1 i).2
          · rw [if_pos d]
            refine ih (i + 1) _ _ (by omega) (by omega) (Or.inr ⟨rfl, ?_, ?_⟩)
            · rw [eh]
            · rw [eh, if_pos f2, if_pos d]
          · rw [if_neg d]
            refine ih (i + 1) _ _ (by omega) (by omega) (Or.inr ⟨f1, ?_, ?_⟩)
            · rw [eh]
            · rw [eh, if_pos f2, if_neg d]
      · have ha : agv M1 i = 0 := by
          rcases agv_01 (M := M1) (i := i) with q | q
          · exact q
          · exact absurd ((hA i hc).mpr (by rw [q]; decide)) c
        rw [if_neg c, if_pos rfl]
        exact ih (i + 1) _ _ (by omega) (by omega) (by rw [hst, if_pos ha]; exact hF)
    · have e : i = 8 := by omega
      subst e
      rw [if_neg (by decide)]
      exact ⟨y3, hF⟩
theorem cint_loop {Mm : Mem} (n : NI Mm) (w : WFm Mm) {z0 : Nat × Int32 × Int64} : ∀ r i M, i + r = 9 → i ≤ 8 → ROW Mm M → CST Mm M (fld Mm z0 (min i (sn Mm))) →
    ∃ M2, f_X3_intersect_L2 r i M = sL M2 5 (f_X3_leastUpperEnd M2) ∧ EC M M2 ∧ ROW Mm M2 ∧ gI M2 10 = gI M 10 ∧ CST Mm M2 (fld Mm z0 (sn Mm)) := by
  have hs := (WFs w).1
  intro r
  induction r with
  | zero => intro i M h1 h2; omega
  | succ r ih =>
    intro i M h1 h2 hR hS
    rw [f_X3_intersect_L2]
    by_cases hc : i < 8
    · rw [if_pos (show nI i < 8 from nI_lt (b := 8) hc (by decide)), bnd_e, ct3 (by omega), hR.2.1 i hc]
      by_cases c : cnd Mm i = true
      · obtain ⟨c1, c2⟩ := cnd_i c
        rw [if_pos c, if_neg (by decide), bnd_e, bnd_e, bnd_e, get_n hc, get_n hc, (hR.2.2 i hc c).1, (hR.2.2 i hc c).2.1, ← (frm_rng n w c).1]
        obtain ⟨t1, t2, t3, t4⟩ := try_step n w hR hS c
        have em : stp Mm i (fld Mm z0 (min i (sn Mm))) = fld Mm z0 (min (i + 1) (sn Mm)) := by
          rw [show min i (sn Mm) = i by omega, show min (i + 1) (sn Mm) = i + 1 by omega, fld]
        rw [em] at t1
        obtain ⟨M2, q1, q2, q3, q4, q5⟩ := ih (i + 1) _ (by omega) (by omega) t3 t1
        exact ⟨M2, q1, t2.tr q2, q3, q4.trans t4, q5⟩
      · rw [if_neg c, if_pos rfl]
        have em : fld Mm z0 (min i (sn Mm)) = fld Mm z0 (min (i + 1) (sn Mm)) := by
          by_cases d : i < sn Mm
          · rw [show min i (sn Mm) = i by omega, show min (i + 1) (sn Mm) = i + 1 by omega, fld]
            unfold stp
            rw [if_neg (fun q => c (decide_eq_true ⟨d, q⟩))]
          · rw [show min i (sn Mm) = sn Mm by omega, show min (i + 1) (sn Mm) = sn Mm by omega]
        rw [em] at hS
        exact ih (i + 1) M (by omega) (by omega) hR hS
    · have e : i = 8 := by omega
      subst e
      rw [if_neg (by decide)]
      simp -implicitDefEqProofs (disch := decide) only [bnd_e, bnd2_e]
      rw [show min 8 (sn Mm) = sn Mm by omega] at hS
      exact ⟨M, rfl, EC.rf, hR, rfl, hS⟩
theorem fld_cnt {Mm : Mem} (w : WFm Mm) {z : Nat × Int32 × Int64} (hz : z.1 = 0) : ∀ i, i ≤ 8 → (fld Mm z (min i (sn Mm))).1 = bc (cnd Mm) i
  | 0, _ => by rw [Nat.zero_min, fld, hz]; rfl
  | i + 1, hi => by
    have ih := fld_cnt w hz i (by omega)
    rw [bc, ← ih]
    by_cases d : i < sn Mm
    · rw [show min (i + 1) (sn Mm) = i + 1 by omega, show min i (sn Mm) = i by omega, fld, stp_1]
      congr 1
      by_cases g : 0 < kn Mm i
      · rw [if_pos g, if_pos]; rw [cnd, decide_eq_true ⟨d, g⟩]
      · rw [if_neg g, if_neg]; rw [cnd, decide_eq_false (fun q => g q.2)]; decide
    · rw [show min (i + 1) (sn Mm) = sn Mm by omega, show min i (sn Mm) = sn Mm by omega, if_neg]
      · omega
      · rw [cnd, decide_eq_false (fun q => d q.1)]; decide
/-- behind both intersections -/
def INT (Mc Mm M M6 : Mem) : Prop := EC Mc M ∧ ROW Mm M ∧ KA M6 M6 ∧ EQ Mm M6 ∧ B8 (gI M 9) ∧ (∀ e, e < 8 → (bt (gI M 9) e = true ↔ ¬ gB M6 6 e = 0)) ∧ (∀ e, e < 8 → bt (gI M 9) e = true → cnd Mm e = true) ∧
  f_J6_bitCount_0f7a4 (gI M 9) = gI M6 8 ∧ f_J6_bitCount_0f7a4 (gI M 8) = gI M6 7 ∧ (gI M 8 = 0 ↔ gI M6 7 = 0) ∧ (¬ gI M6 7 = 0 → gL M 4 = gL M6 4 ∧ gL M 5 = gL M6 5)
theorem cint {Mc Mm M1 : Mem} (n : NI Mm) (w : WFm Mm) (h : ENT Mc Mm M1 (sn Mm)) : INT Mc Mm (f_X3_intersect M1) (f_X6_intersect Mm) := by
  have hs := (WFs w).1
  have hR := ROW_of h
  obtain ⟨g, e9, e10, e4, e5, -, -, -⟩ := h
  obtain ⟨K, k1, e7m, e8m, e4m, kA, e6m, e5m⟩ := inter_spec w
  have hS0 : CST Mm M1 (fld Mm (0, 0, gL Mm 4) (min 0 (sn Mm))) := by
    rw [Nat.zero_min, fld, CST, e9]
    exact ⟨B8_0, Or.inl ⟨rfl, rfl, rfl⟩⟩
  obtain ⟨M2, q1, q2, q3, q4, q5⟩ := cint_loop n w (8 + 1 - 0) 0 M1 (by omega) (by omega) hR hS0
  have eM : f_X3_intersect M1 = sL M2 5 (f_X3_leastUpperEnd M2) := by rw [f_X3_intersect, q1]
  have hf := fld_ok n w (z := (0, 0, gL Mm 4)) rfl rfl (sn Mm) (Nat.le_refl _)
  have hcnt : (fld Mm (0, 0, gL Mm 4) (sn Mm)).1 = bc (cnd Mm) 8 := by
    have := fld_cnt w (z := (0, 0, gL Mm 4)) rfl 8 (Nat.le_refl 8)
    rw [show min 8 (sn Mm) = sn Mm by omega] at this
    exact this
  have hc8 := bc_le (cnd Mm) 8
  obtain ⟨a, a8, ea, ez, -⟩ := CST_cnt w q5
  generalize hz : fld Mm (0, 0, gL Mm 4) (sn Mm) = z at *
  -- who agrees
  have hA : ∀ e, e < 8 → (bt (gI M2 9) e = true ↔ ¬ agv K e = 0) := by
    intro e he
    unfold agv
    rw [EQ_sn k1.1, e7m, has_eq k1.1, e4m]
    rcases q5.2 with ⟨h1, h2, h3⟩ | ⟨h1, h2, h3, h4⟩
    · rw [h2, b_0, h1]
      constructor
      · intro q; cases q
      · intro q
        exfalso
        apply q
        split
        · rw [if_neg (by decide)]
        · rfl
    · rw [h3 e he, HB]
      have h7 : (0 : Int32) < nI z.1 := (k_pos (by omega)).mpr h1
      by_cases c : e < sn Mm
      · rw [if_pos c, if_pos h7]
        by_cases d : f_X6_has Mm e z.2.2 = 0
        · rw [if_pos d, decide_eq_false (fun q => q d), Bool.and_false]
          exact ⟨fun q => (by cases q), fun q => absurd rfl q⟩
        · have hk := (has_iff (WFk w he).1).mp d
          rw [if_neg d, decide_eq_true d, Bool.and_true, cnd, decide_eq_true ⟨c, hk.1⟩]
          exact ⟨fun _ => by decide, fun _ => rfl⟩
      · rw [if_neg c, cnd, decide_eq_false (fun q => c q.1), Bool.false_and]
        exact ⟨fun q => (by cases q), fun q => absurd rfl q⟩
  have hC : ∀ e, e < 8 → bt (gI M2 9) e = true → cnd Mm e = true := by
    intro e he hb
    rcases q5.2 with ⟨h1, h2, h3⟩ | ⟨h1, h2, h3, h4⟩
    · rw [h2, b_0] at hb; cases hb
    · rw [h3 e he, HB] at hb
      exact (Bool.and_eq_true_iff.mp hb).1
  have hL : ∃ y3', FND y3' (f_X3_leastUpperEnd M2) (hst K 8) := by
    rw [f_X3_leastUpperEnd]
    exact lu_loop q3 k1.1 hA hC _ _ _ _ (by omega) (by omega) (Or.inl ⟨rfl, rfl⟩)
  have eJ : f_J6_bitCount_0f7a4 (gI M2 8) = nI (bc (cnd Mm) 8) := bitc_of q3.1 q3.2.1
  rw [eM]
  refine ⟨(g.tr q2).tr (EC_sL (by omega)), ROW_mv q3 gI_sL (fun r _ => gJ_sL), KA.rf, k1.1.tr kA.1, by rw [gI_sL]; exact q5.1, fun e he => ?_, fun e he hb => ?_, ?_, ?_, ?_, fun hne => ?_⟩
  · rw [gI_sL, e6m e he]; exact hA e he
  · rw [gI_sL] at hb; exact hC e he hb
  · rw [gI_sL, ea, kA.2.2.2.1, e8m, ez]
  · rw [gI_sL, eJ, kA.2.2.1, e7m, hcnt]
  · rw [gI_sL, kA.2.2.1, e7m, hcnt]
    constructor
    · intro q
      have : bc (cnd Mm) 8 = 0 := by
        rcases Nat.eq_zero_or_pos (bc (cnd Mm) 8) with r | r
        · exact r
        · exfalso
          have e9 := eJ
          rw [q] at e9
          have : nI (bc (cnd Mm) 8) = 0 := e9.symm.trans (by decide)
          have := (nI_eq (a := bc (cnd Mm) 8) (b := 0) (by omega) (by decide)).mp this
          omega
      rw [this]; rfl
    · intro q
      have h0 : bc (cnd Mm) 8 = 0 := (nI_eq (a := bc (cnd Mm) 8) (b := 0) (by omega) (by decide)).mp q
      have hz0 := bc_zero 8 h0
      exact B8_ext q3.1 B8_0 (fun e he => by rw [q3.2.1 e he, hz0 e he, b_0])
  · rw [kA.2.2.1, e7m] at hne
    have hpos : 0 < z.1 := by
      rcases Nat.eq_zero_or_pos z.1 with r | r
      · rw [r] at hne; exact absurd rfl hne
      · exact r
    rcases q5.2 with ⟨h1, -, -⟩ | ⟨h1, h2, h3, h4⟩
    · omega
    · refine ⟨?_, ?_⟩
      · rw [gL_ne (by decide), h2, kA.2.2.2.2.1, e4m]
      · rw [gL_eq, e5m]
        obtain ⟨y3', hF⟩ := hL
        rcases hF with ⟨f1, f2⟩ | ⟨f1, f2, f3⟩
        · exfalso
          -- somebody agrees: the first mark is gone
          rcases hf with ⟨a1, -, -⟩ | ⟨-, k, k2, k3, k4, k5, k6⟩
          · omega
          · have hk8 : k < 8 := by omega
            have hag : ¬ agv K k = 0 := by
              unfold agv
              rw [EQ_sn k1.1, if_pos k2, e7m, if_pos ((k_pos (by omega)).mpr hpos), has_eq k1.1, e4m, k4, if_neg (own_in n w k2 k3)]
              decide
            have : ∀ i, k < i → (hst K i).1 = 0 := by
              intro i
              induction i with
              | zero => intro q; omega
              | succ i ih =>
                intro q
                rw [hst]
                by_cases c : agv K i = 0
                · rw [if_pos c]
                  by_cases e : k = i
                  · rw [e] at hag; exact absurd c hag
                  · exact ih (by omega)
                · rw [if_neg c]
            rw [this 8 hk8] at f2
            exact absurd f2 (by decide)
        · exact f3
