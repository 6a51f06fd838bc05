/-! what holds of a selection -/
theorem hst_spec {K : Mem} : ∀ i, ((hst K i).1 = 1 ∧ ∀ e, e < i → agv K e = 0) ∨ ((hst K i).1 = 0 ∧ (∃ e, e < i ∧ ¬ agv K e = 0 ∧ (hst K i).2 = f_X6_to K e) ∧ ∀ e, e < i → ¬ agv K e = 0 → ¬ f_X6_to K e < (hst K i).2)
  | 0 => Or.inl ⟨rfl, fun e he => absurd he (Nat.not_lt_zero e)⟩
  | i + 1 => by
    have ih := hst_spec (K := K) i
    rw [hst]
    by_cases c : agv K i = 0
    · rw [if_pos c]
      rcases ih with ⟨a1, a2⟩ | ⟨a1, ⟨e0, e1, e2, e3⟩, a3⟩
      · left
        refine ⟨a1, fun e he => ?_⟩
        by_cases q : e = i
        · rw [q]; exact c
        · exact a2 e (by omega)
      · right
        refine ⟨a1, ⟨e0, by omega, e2, e3⟩, fun e he hb => ?_⟩
        by_cases q : e = i
        · rw [q] at hb; exact absurd c hb
        · exact a3 e (by omega) hb
    · rw [if_neg c]
      right
      rcases ih with ⟨a1, a2⟩ | ⟨a1, ⟨e0, e1, e2, e3⟩, a3⟩
      · rw [if_neg (show ¬ (hst K i).1 = 0 by rw [a1]; decide)]
        refine ⟨rfl, ⟨i, by omega, c, rfl⟩, fun e he hb => ?_⟩
        by_cases q : e = i
        · rw [q]; show ¬ f_X6_to K i < f_X6_to K i; rw [l_lt]; omega
        · exact absurd (a2 e (by omega)) hb
      · rw [if_pos a1]
        by_cases d : f_X6_to K i < (hst K i).2
        · rw [if_pos d]
          refine ⟨rfl, ⟨i, by omega, c, rfl⟩, fun e he hb => ?_⟩
          show ¬ f_X6_to K e < f_X6_to K i
          by_cases q : e = i
          · rw [q, l_lt]; omega
          · have := a3 e (by omega) hb
            rw [l_lt] at this d ⊢; omega
        · rw [if_neg d]
          refine ⟨rfl, ⟨e0, by omega, e2, e3⟩, fun e he hb => ?_⟩
          show ¬ f_X6_to K e < (hst K i).2
          by_cases q : e = i
          · rw [q]; exact d
          · exact a3 e (by omega) hb
section HO
variable {Mm M : Mem} {t : Int32}
theorem inter_all (h : CL Mm t M) : (∀ e, e < 8 → (agF Mm e = true ↔ cnd Mm e = true ∧ ¬ lo Mm < f_X6_from Mm e ∧ ¬ f_X6_to Mm e < lo Mm)) ∧
    ((∀ e, e < 8 → agF Mm e = false) ∨ ((∃ e, e < 8 ∧ agF Mm e = true ∧ hi Mm = f_X6_to Mm e) ∧ ∀ e, e < 8 → agF Mm e = true → ¬ f_X6_to Mm e < hi Mm)) := by
  have w := h.2.2.1
  have hK := (sel_ok h.2.1.nb w).1
  obtain ⟨K, k1, e7, e8, e4, kA, e6, e5⟩ := inter_spec w
  have hs := (WFs w).1
  have hcnt : (fld Mm (0, 0, gL Mm 4) (sn Mm)).1 = CN Mm := by
    have := fld_cnt w (z := (0, 0, gL Mm 4)) rfl 8 (Nat.le_refl 8)
    rw [show min 8 (sn Mm) = sn Mm by omega] at this
    exact this
  rw [hcnt] at e7
  have elo : lo Mm = gL K 4 := by rw [lo, hK.2.2.2.2.1, kA.2.2.2.2.1]
  have ehi : hi Mm = (hst K 8).2 := by rw [hi, hK.2.2.2.2.2.1, e5]
  have ag : ∀ e, e < 8 → (agF Mm e = true ↔ ¬ agv K e = 0) := fun e he => by
    rw [agF, hK.2.2.2.2.2.2, e6 e he]
    exact decide_eq_true_iff
  have hC8 := CN_le Mm
  have main : ∀ e, e < 8 → (agF Mm e = true ↔ cnd Mm e = true ∧ ¬ lo Mm < f_X6_from Mm e ∧ ¬ f_X6_to Mm e < lo Mm) := by
    intro e he
    rw [ag e he, elo]
    unfold agv
    rw [EQ_sn k1.1, e7, has_eq k1.1]
    by_cases c : e < sn Mm
    · rw [if_pos c]
      by_cases g : 0 < kn Mm e
      · have hc : cnd Mm e = true := by rw [cnd, decide_eq_true ⟨c, g⟩]
        have hp : 0 < CN Mm := bc_pos hc 8 he
        rw [if_pos ((k_pos (by omega)).mpr hp)]
        have hi' := has_iff (M := Mm) (j := e) (x := gL K 4) (WFk w he).1
        by_cases d : f_X6_has Mm e (gL K 4) = 0
        · rw [if_pos d]
          exact ⟨fun q => absurd rfl q, fun q => absurd d (hi'.mpr ⟨g, q.2⟩)⟩
        · rw [if_neg d]
          exact ⟨fun _ => ⟨hc, (hi'.mp d).2⟩, fun _ => by decide⟩
      · have hc : ¬ cnd Mm e = true := by rw [cnd, decide_eq_false (fun q => g q.2)]; decide
        have hd : f_X6_has Mm e (gL K 4) = 0 := by
          rcases has_01 (M := Mm) (j := e) (x := gL K 4) with q | q
          · exact q
          · exact absurd ((has_iff (M := Mm) (j := e) (x := gL K 4) (WFk w he).1).mp (by rw [q]; decide)).1 g
        rw [if_pos hd]
        constructor
        · intro q; exact absurd (by split <;> rfl) q
        · intro q; exact absurd q.1 hc
    · rw [if_neg c]
      exact ⟨fun q => absurd rfl q, fun q => absurd (cnd_i q.1).1 c⟩
  refine ⟨main, ?_⟩
  rcases hst_spec (K := K) 8 with ⟨a1, a2⟩ | ⟨a1, ⟨e0, e1, e2, e3⟩, a3⟩
  · left
    intro e he
    have := mt (ag e he).mp (fun q => q (a2 e he))
    simpa using this
  · right
    refine ⟨⟨e0, e1, (ag e0 e1).mpr e2, by rw [ehi, e3, to_eq k1.1]⟩, fun e he hb => ?_⟩
    have := a3 e he ((ag e he).mp hb)
    rw [to_eq k1.1] at this
    rw [ehi]; exact this
theorem ag_cnd (h : CL Mm t M) {e : Nat} (he : e < 8) (ha : agF Mm e = true) : cnd Mm e = true := (((inter_all h).1 e he).mp ha).1
theorem sv_cnd (h : CL Mm t M) {e : Nat} (he : e < 8) (ha : svF Mm e = true) : cnd Mm e = true := by
  have := (sel_ok h.2.1.nb h.2.2.1).2.2.1 e he (of_decide_eq_true ha)
  rw [cnd, decide_eq_true this]
theorem cntTo_cg {A B : Mem} : ∀ i, (∀ j, j < i → gB A 7 j = gB B 7 j) → cntTo A i = cntTo B i
  | 0, _ => rfl
  | i + 1, h => by rw [cntTo, cntTo, cntTo_cg i (fun j hj => h j (by omega)), h i (by omega)]
theorem cnt_loop {M0 : Mem} : ∀ r i M y, ((3 < cnt7 M0 → 3 ≤ cnt7 M) ∧ (cnt7 M0 ≤ 3 → ∀ j, j < 8 → gB M 7 j = gB M0 7 j) ∧ ∀ j, j < 8 → ¬ gB M 7 j = 0 → ¬ gB M0 7 j = 0) →
    (3 < cnt7 M0 → 3 ≤ cnt7 (f_X6_select_L32 r i M y)) ∧ (cnt7 M0 ≤ 3 → ∀ j, j < 8 → gB (f_X6_select_L32 r i M y) 7 j = gB M0 7 j) ∧ ∀ j, j < 8 → ¬ gB (f_X6_select_L32 r i M y) 7 j = 0 → ¬ gB M0 7 j = 0 := by
  intro r
  induction r with
  | zero => intro i M y h; rw [f_X6_select_L32]; exact h
  | succ r ih =>
    intro i M y h
    rw [f_X6_select_L32]
    by_cases hy : y = 0
    · rw [if_pos hy]; exact h
    · rw [if_neg hy, bnd_e, surv_spec]
      have hle := cntTo_le M 8
      by_cases hc : (3 : Int32) < nI (cnt7 M)
      · have hc' : 3 < cnt7 M := (three_lt (by unfold cnt7; omega)).mp hc
        rw [if_pos hc, bnd2_e]
        rcases rem_two (M := M) (8 + 1 - 0) 0 1 0 (-1) with e | ⟨k, e⟩
        · rw [f_X6_removes, e]; exact ih _ _ _ h
        · rw [f_X6_removes, e]
          have hl := cnt_less (M := M) (k := k)
          refine ih _ _ _ ⟨fun _ => ?_, fun q => ?_, fun j hj hb => ?_⟩
          · show 3 ≤ cnt7 (sB M 7 (upd (gB M 7) k 0)); omega
          · exfalso
            have : cnt7 M = cnt7 M0 := cntTo_cg 8 (h.2.1 q)
            omega
          · refine h.2.2 j hj (fun q => hb ?_)
            show gB (sB M 7 (upd (gB M 7) k 0)) 7 j = 0
            rw [gB_eq]
            by_cases e9 : j = k
            · rw [e9, upd_eq]
            · rw [upd_ne e9]; exact q
      · rw [if_neg hc]; exact h
theorem bc_cnt {f : Nat → Bool} {N : Mem} : ∀ i, (∀ e, e < i → f e = decide (¬ gB N 7 e = 0)) → bc f i = cntTo N i
  | 0, _ => rfl
  | i + 1, h => by
    rw [bc, cntTo, bc_cnt i (fun e he => h e (by omega)), h i (by omega)]
    by_cases c : gB N 7 i = 0
    · rw [if_pos c, if_neg (by rw [decide_eq_false (fun q => q c)]; decide)]
    · rw [if_neg c, if_pos (decide_eq_true c)]
theorem clus_all (h : CL Mm t M) : (3 < AN Mm → 3 ≤ SN Mm) ∧ (AN Mm ≤ 3 → ∀ e, e < 8 → svF Mm e = agF Mm e) ∧ ∀ e, e < 8 → svF Mm e = true → agF Mm e = true := by
  have hK := (sel_ok h.2.1.nb h.2.2.1).1
  obtain ⟨M2, e, k2, h7⟩ := sel_start (M := Mm)
  obtain ⟨c1, c2, c3⟩ := cnt_loop (M0 := M2) (9 + 1 - 0) 0 M2 1 ⟨fun q => by omega, fun _ _ _ => rfl, fun _ _ q => q⟩
  rw [← e] at c1 c2 c3
  have ea : ∀ j, j < 8 → agF Mm j = decide (¬ gB M2 7 j = 0) := fun j hj => by rw [agF, hK.2.2.2.2.2.2, h7 j hj]
  have eA : AN Mm = cnt7 M2 := bc_cnt 8 ea
  have eS : SN Mm = cnt7 (f_X6_select Mm) := bc_cnt 8 (fun _ _ => rfl)
  rw [eA, eS]
  refine ⟨c1, fun q j hj => ?_, fun j hj hb => ?_⟩
  · rw [ea j hj, svF, c2 q j hj]
  · rw [ea j hj]; exact decide_eq_true (c3 j hj (of_decide_eq_true hb))
theorem some_sv' (h : CL Mm t M) (c : ¬ CN Mm = 0) : ∃ j, j < 8 ∧ svF Mm j = true := by
  obtain ⟨j, hj, hb⟩ := some_sv h c
  exact ⟨j, hj, decide_eq_true hb⟩
theorem none_cn (c : CN Mm = 0) {e : Nat} (he : e < 8) : cnd Mm e = false := bc_zero 8 c e he
theorem pos_counts (h : CL Mm t M) (c : ¬ CN Mm = 0) : 1 ≤ AN Mm ∧ 1 ≤ SN Mm := by
  obtain ⟨j, hj, hb⟩ := some_sv' h c
  exact ⟨bc_pos ((clus_all h).2.2 j hj hb) 8 hj, bc_pos hb 8 hj⟩
theorem eq_SN (h : CL Mm t M) (c : AN Mm ≤ 3) : SN Mm = AN Mm := bc_congr 8 ((clus_all h).2.1 c)
theorem lo_hi (h : CL Mm t M) (c : ¬ CN Mm = 0) : ¬ hi Mm < lo Mm := by
  obtain ⟨m1, m2⟩ := inter_all h
  obtain ⟨j, hj, hb⟩ := some_sv' h c
  rcases m2 with q | ⟨⟨e, e1, e2, e3⟩, -⟩
  · have := (clus_all h).2.2 j hj hb
    rw [q j hj] at this; cases this
  · rw [e3]; exact (((m1 e e1).mp e2).2).2
theorem ag_high (h : CL Mm t M) {e : Nat} (he : e < 8) (ha : agF Mm e = true) : ¬ hi Mm < f_X6_from Mm e ∧ ¬ f_X6_to Mm e < hi Mm := by
  obtain ⟨m1, m2⟩ := inter_all h
  have a := (m1 e he).mp ha
  have hc : ¬ CN Mm = 0 := fun q => by have := none_cn q he; rw [a.1] at this; cases this
  have lh := lo_hi h hc
  rcases m2 with q | ⟨-, q⟩
  · rw [q e he] at ha; cases ha
  · refine ⟨?_, q e he ha⟩
    have b := a.2.1
    rw [l_lt] at lh b ⊢; omega
/-! the combined offset lies between the survivors' offsets -/
theorem sum2 {y z : Int64} {w f : Int64} {A X : Int} (hw : 1 ≤ w.toInt ∧ w.toInt ≤ 1000000) (hf : A ≤ f.toInt ∧ f.toInt ≤ X) (hA : -4000000000 ≤ A) (hX : X ≤ 4000000000) (hz : 0 ≤ z.toInt ∧ z.toInt ≤ 8000000) (h1 : A * z.toInt ≤ y.toInt) (h2 : y.toInt ≤ X * z.toInt) :
    (y + w * f).toInt = y.toInt + w.toInt * f.toInt ∧ (z + w).toInt = z.toInt + w.toInt ∧ A * (z.toInt + w.toInt) ≤ y.toInt + w.toInt * f.toInt ∧ y.toInt + w.toInt * f.toInt ≤ X * (z.toInt + w.toInt) := by
  have m1 : w.toInt * f.toInt ≤ w.toInt * X := Int.mul_le_mul_of_nonneg_left hf.2 (by omega)
  have m2 : w.toInt * A ≤ w.toInt * f.toInt := Int.mul_le_mul_of_nonneg_left hf.1 (by omega)
  have m3 : w.toInt * X ≤ w.toInt * 4000000000 := Int.mul_le_mul_of_nonneg_left hX (by omega)
  have m3' : w.toInt * (-4000000000) ≤ w.toInt * A := Int.mul_le_mul_of_nonneg_left hA (by omega)
  have m4 : X * z.toInt ≤ 4000000000 * z.toInt := Int.mul_le_mul_of_nonneg_right hX (by omega)
  have m4' : -4000000000 * z.toInt ≤ A * z.toInt := Int.mul_le_mul_of_nonneg_right hA (by omega)
  have m5 : X * (z.toInt + w.toInt) = X * z.toInt + w.toInt * X := by rw [Int.mul_add, Int.mul_comm X w.toInt]
  have m6 : A * (z.toInt + w.toInt) = A * z.toInt + w.toInt * A := by rw [Int.mul_add, Int.mul_comm A w.toInt]
  have e1 : (w * f).toInt = w.toInt * f.toInt := l_mul (by omega)
  refine ⟨by rw [l_add (by rw [e1]; omega), e1], l_add (by omega), by rw [m6]; omega, by rw [m5]; omega⟩
theorem comb2_loop {N : Mem} {A X : Int} (hA : -4000000000 ≤ A) (hX : X ≤ 4000000000) (hd : ∀ j, j < 8 → ¬ gB N 7 j = 0 → (0 ≤ (f_X6_distanceOf N j).toInt ∧ (f_X6_distanceOf N j).toInt ≤ 1000000000000) ∧ (A ≤ (gJ N 0 (bx N j)).toInt ∧ (gJ N 0 (bx N j)).toInt ≤ X)) (hs : ∃ j, j < 8 ∧ ¬ gB N 7 j = 0) :
    ∀ (r i : Nat) (z y : Int64), i + r = 9 → i ≤ 8 → (0 ≤ z.toInt ∧ z.toInt ≤ 1000000 * (i : Int)) → ((∃ j, j < i ∧ ¬ gB N 7 j = 0) → 0 < z.toInt) → A * z.toInt ≤ y.toInt → y.toInt ≤ X * z.toInt →
    A ≤ (f_X6_combined_L7 N r i z y).toInt ∧ (f_X6_combined_L7 N r i z y).toInt ≤ X := by
  intro r
  induction r with
  | zero => intro i z y h1 h2; omega
  | succ r ih =>
    intro i z y h1 h2 hz hp ha hb
    rw [f_X6_combined_L7]
    by_cases hc : nI i < (8 : Int32)
    · have hc' : i < 8 := nI_lt8 (n := 8) hc (by omega) (by decide)
      rw [if_pos hc]
      by_cases h7 : gB N 7 i = 0
      · rw [if_pos h7]
        refine ih (i + 1) z y (by omega) (by omega) ⟨hz.1, by omega⟩ (fun ⟨j, hj, hb9⟩ => hp ⟨j, ?_, hb9⟩) ha hb
        by_cases e : j = i
        · rw [e] at hb9; exact absurd h7 hb9
        · omega
      · rw [if_neg h7]
        obtain ⟨d1, d2⟩ := hd i hc' h7
        have hw := w_num d1
        have eb : (f_X6_best N i).toNatClampNeg = bx N i := by rw [bx]
        simp -implicitDefEqProofs (disch := decide) only [bnd_e, bnd2_e, eb]
        have go : ∀ w : Int64, 1 ≤ w.toInt ∧ w.toInt ≤ 1000000 → A ≤ (f_X6_combined_L7 N r (i + 1) (z + w) (y + w * gJ N 0 (bx N i))).toInt ∧ (f_X6_combined_L7 N r (i + 1) (z + w) (y + w * gJ N 0 (bx N i))).toInt ≤ X := by
          intro w hw1
          obtain ⟨s1, s2, s3, s4⟩ := sum2 hw1 d2 hA hX ⟨hz.1, by omega⟩ ha hb
          refine ih (i + 1) _ _ (by omega) (by omega) ⟨by rw [s2]; omega, by rw [s2]; omega⟩ (fun _ => by rw [s2]; omega) (by rw [s1, s2]; exact s3) (by rw [s1, s2]; exact s4)
        by_cases c : (1000000 : Int64) / (f_X6_distanceOf N i + 1) < 1
        · rw [if_pos c]
          exact go 1 (by decide)
        · rw [if_neg c]
          refine go _ ⟨wt_lo c, hw.1⟩
    · have e : i = 8 := by
        rcases Nat.lt_or_ge i 8 with q | q
        · exact absurd (nI_lt (a := i) (b := 8) q (by decide)) hc
        · omega
      rw [if_neg hc, bnd_e]
      subst e
      rw [dn_spec (hp hs)]
      exact ⟨Int.le_ediv_of_mul_le (hp hs) ha, Int.ediv_le_of_le_mul (hp hs) hb⟩
theorem mean_rng (h : CL Mm t M) (c : ¬ CN Mm = 0) {A X : Int} (hA : -4000000000 ≤ A) (hX : X ≤ 4000000000) (hd : ∀ e, e < 8 → svF Mm e = true → A ≤ (offM Mm e).toInt ∧ (offM Mm e).toInt ≤ X) : A ≤ (mean Mm).toInt ∧ (mean Mm).toInt ≤ X := by
  have hE := (sel_ok h.2.1.nb h.2.2.1).2.1
  rw [mean, f_X6_combined]
  refine comb2_loop hA hX (fun j hj hb => ?_) (some_sv h c) _ _ _ _ (by omega) (by omega) ⟨by decide, by decide⟩ (fun ⟨j, hj, _⟩ => absurd hj (Nat.not_lt_zero j)) (by rw [show (0 : Int64).toInt = 0 by decide]; omega) (by rw [show (0 : Int64).toInt = 0 by decide]; omega)
  have hs : svF Mm j = true := decide_eq_true hb
  obtain ⟨c1, c2⟩ := cnd_i (sv_cnd h hj hs)
  rw [dist_eq hE, bx_eq hE, hE.2.2.2]
  exact ⟨dist_rng h.2.1.nb h.2.2.1 c1 c2, hd j hj hs⟩
/-! the peer is a survivor -/
theorem ld_end {N : Mem} : ∀ r i y, i + r = 9 → i ≤ 8 → ((y = -1 ∧ ∀ e, e < i → gB N 7 e = 0) ∨ ∃ s, s < 8 ∧ ¬ gB N 7 s = 0 ∧ y = nI s) → (f_X6_leader_L4 N r i y = -1 ∧ ∀ e, e < 8 → gB N 7 e = 0) ∨ ∃ s, s < 8 ∧ ¬ gB N 7 s = 0 ∧ f_X6_leader_L4 N r i y = nI s := by
  intro r
  induction r with
  | zero => intro i y h1 h2; omega
  | succ r ih =>
    intro i y h1 h2 hy
    rw [f_X6_leader_L4]
    by_cases hc : i < 8
    · rw [if_pos (show nI i < (8 : Int32) from nI_lt (b := 8) hc (by decide))]
      by_cases c0 : gB N 7 i = 0
      · rw [if_pos c0]
        refine ih _ _ (by omega) (by omega) ?_
        rcases hy with ⟨y1, y2⟩ | q
        · left
          refine ⟨y1, fun e he => ?_⟩
          by_cases ee : e = i
          · rw [ee]; exact c0
          · exact y2 e (by omega)
        · exact Or.inr q
      · rw [if_neg c0]
        have new := ih (i + 1) (nI i) (by omega) (by omega) (Or.inr ⟨i, hc, c0, rfl⟩)
        by_cases c1 : y = -1
        · rw [if_pos c1]; exact new
        · rw [if_neg c1]
          have old := ih (i + 1) y (by omega) (by omega) (Or.inr (hy.resolve_left (fun q => c1 q.1)))
          split
          · exact new
          · split
            · rw [bnd_e, bnd_e]
              split
              · exact new
              · exact old
            · exact old
    · have e : i = 8 := by omega
      subst e
      rw [if_neg (by decide)]
      exact hy
theorem peer_sv (h : CL Mm t M) : (pe Mm = -1 ∧ ∀ e, e < 8 → svF Mm e = false) ∨ ∃ s, s < 8 ∧ svF Mm s = true ∧ pe Mm = nI s := by
  rw [pe, f_X6_leader]
  rcases ld_end (N := f_X6_select Mm) (8 + 1 - 0) 0 (-1) (by omega) (by omega) (Or.inl ⟨rfl, fun e he => absurd he (Nat.not_lt_zero e)⟩) with ⟨a, b⟩ | ⟨s, s1, s2, s3⟩
  · exact Or.inl ⟨a, fun e he => by rw [svF]; exact decide_eq_false (fun q => q (b e he))⟩
  · exact Or.inr ⟨s, s1, decide_eq_true s2, s3⟩
theorem peer_no (h : CL Mm t M) (c : CN Mm = 0) : pe Mm = -1 := by
  rcases peer_sv h with ⟨a, -⟩ | ⟨s, s1, s2, -⟩
  · exact a
  · have := sv_cnd h s1 s2
    rw [none_cn c s1] at this; cases this
theorem peer_yes (h : CL Mm t M) (c : ¬ CN Mm = 0) : ∃ s, s < 8 ∧ svF Mm s = true ∧ pe Mm = nI s := by
  rcases peer_sv h with ⟨-, b⟩ | q
  · obtain ⟨j, hj, hb⟩ := some_sv' h c
    rw [b j hj] at hb; cases hb
  · exact q
/-! distance, jitter, delay -/
theorem sum5_ge {a b c d e : Int64} (ha : 0 ≤ a.toInt ∧ a.toInt ≤ 100000000000) (hb : 0 ≤ b.toInt ∧ b.toInt ≤ 100000000000) (hc : 0 ≤ c.toInt ∧ c.toInt ≤ 100000000000) (hd : 0 ≤ d.toInt ∧ d.toInt ≤ 100000000000) (he : 0 ≤ e.toInt ∧ e.toInt ≤ 100000000000) :
    d.toInt ≤ (a + b + c + d + e).toInt := by
  have h1 : (a + b).toInt = a.toInt + b.toInt := l_add (by omega)
  have h2 : (a + b + c).toInt = a.toInt + b.toInt + c.toInt := by rw [l_add (by rw [h1]; omega), h1]
  have h3 : (a + b + c + d).toInt = a.toInt + b.toInt + c.toInt + d.toInt := by rw [l_add (by rw [h2]; omega), h2]
  have h4 : (a + b + c + d + e).toInt = a.toInt + b.toInt + c.toInt + d.toInt + e.toInt := by rw [l_add (by rw [h3]; omega), h3]
  rw [h4]
  omega
theorem dist_jit (h : CL Mm t M) {j : Nat} (hj : j < sn Mm) (h0 : 0 < kn Mm j) : (f_X6_jitterOf Mm j).toInt ≤ (f_X6_distanceOf Mm j).toInt ∧ 0 ≤ (f_X6_jitterOf Mm j).toInt ∧ 0 ≤ (gJ Mm 1 (bx Mm j)).toInt := by
  have w := h.2.2.1
  have n := h.2.1.nb
  have hj8 : j < 8 := Nat.lt_of_lt_of_le hj (WFs w).1
  obtain ⟨-, -, e3⟩ := best_spec hj8 (WFk w hj8).1
  have hB := e3 h0
  obtain ⟨-, -, s3, s4, s5, s6⟩ := NB_smp n hj hB.1.1 hB.1.2
  have hJ := jit_rng n w hj h0
  obtain ⟨-, v1, v2, -⟩ := n.2 j hj
  have hr := rd_rng n
  have c1 : (gB Mm 3 j / 2).toInt64.toInt = (gB Mm 3 j).toInt / 2 := by
    rw [Int32.toInt_toInt64, Int32.toInt_div_of_ne_right _ _ (by decide), show (2 : Int32).toInt = 2 by decide, Int.tdiv_eq_ediv_of_nonneg v1.1]
  have c2 : (gJ Mm 1 (bx Mm j) / 2).toInt = (gJ Mm 1 (bx Mm j)).toInt / 2 := by rw [l_quo s3 two_pos, show (2 : Int64).toInt = 2 by decide]
  have c3 : (gB Mm 4 j).toInt64.toInt = (gB Mm 4 j).toInt := Int32.toInt_toInt64 _
  have h1 := half_rng v1
  have h2 := half_rng ⟨s3, s4⟩
  refine ⟨?_, hJ.1, s3⟩
  rw [dist_e]
  refine sum5_ge ?_ ?_ ?_ ?_ (age_e (by rw [rd_i]; exact s6) s5 (by rw [rd_i]; exact hr.2))
  · rw [c1]; exact ⟨h1.1, Int.le_trans h1.2 (by decide)⟩
  · rw [c2]; exact ⟨h2.1, Int.le_trans h2.2 (by decide)⟩
  · rw [c3]; exact ⟨v2.1, Int.le_trans v2.2 (by decide)⟩
  · exact ⟨hJ.1, Int.le_trans hJ.2 (by decide)⟩
end HO
