/-! the same in the numbers of the machine -/
theorem smf_i {i : Nat} (hi : i < 21) : (f_X6_smearFrom (nI i)).toInt = smB i := by
  rw [← smear_eq hi, f_X0_smearBeginning]
  have e0 : (nI i).toInt64.toInt = (i : Int) := by rw [Int32.toInt_toInt64, nI_toInt (by omega)]
  have e1 : ((nI i).toInt64 + 1).toInt = (i : Int) + 1 := by rw [l_add, e0, show (1 : Int64).toInt = 1 by decide]; rw [e0, show (1 : Int64).toInt = 1 by decide]; omega
  have d : (86400000000 : Int64).toInt = 86400000000 := by decide
  have s : (20000000000 : Int64).toInt = 20000000000 := by decide
  have e2 : (((nI i).toInt64 + 1) * 86400000000).toInt = ((i : Int) + 1) * 86400000000 := by rw [l_mul (by rw [e1, d]; omega), e1, d]
  rw [l_sub (by rw [e2, s]; omega), e2, s, smB]
theorem pt_i {i : Nat} (hi : i < 21) {t : Int64} (ht : -4000000000000 ≤ t.toInt ∧ t.toInt ≤ 4000000000000) : (f_X0_partCome (nI i) t).toInt = pt i t.toInt := by
  rw [come_e hi]
  have e := smf_i hi
  have hb : 0 ≤ smB i ∧ smB i ≤ 4000000000000 := by unfold smB; omega
  have es : (t - f_X6_smearFrom (nI i)).toInt = t.toInt - smB i := by rw [l_sub (by rw [e]; omega), e]
  have z : (0 : Int64).toInt = 0 := by decide
  have s : (20000000000 : Int64).toInt = 20000000000 := by decide
  unfold pt
  by_cases c1 : t - f_X6_smearFrom (nI i) < 0
  · have c1' := l_lt.mp c1
    rw [es, z] at c1'
    rw [if_pos c1, if_pos c1', z]
  · have c1' : ¬ t.toInt - smB i < 0 := fun q => c1 (l_lt.mpr (by rw [es, z]; exact q))
    rw [if_neg c1, if_neg c1']
    by_cases c2 : t - f_X6_smearFrom (nI i) < 20000000000
    · have c2' := l_lt.mp c2
      rw [es, s] at c2'
      rw [if_pos c2, if_pos c2', l_quo (by rw [es]; omega) (by decide), es]
      rfl
    · have c2' : ¬ t.toInt - smB i < 20000000000 := fun q => c2 (l_lt.mpr (by rw [es, s]; exact q))
      rw [if_neg c2, if_neg c2']
      rfl
def gS (M : Mem) (i : Nat) : Int := if i < 21 then (gB M 0 i).toInt else 0
theorem gS_ok {Mc M : Mem} (h : RLp Mc M) : ∀ i, gS M i = -1 ∨ gS M i = 0 ∨ gS M i = 1 := by
  intro i
  unfold gS
  by_cases c : i < 21
  · rw [if_pos c]
    rcases h i c with ⟨e, -⟩ | ⟨e, -⟩ | ⟨e, -⟩ <;> rw [e]
    · exact Or.inr (Or.inl (by decide))
    · exact Or.inl (by decide)
    · exact Or.inr (Or.inr (by decide))
  · rw [if_neg c]; exact Or.inr (Or.inl rfl)
theorem tm_num {y a p : Int64} {g : Int} (hy : -4000100000000 ≤ y.toInt ∧ y.toInt ≤ 4000100000000) (ha : a.toInt = g) (hg : g = -1 ∨ g = 0 ∨ g = 1) (hp : 0 ≤ p.toInt ∧ p.toInt ≤ 1000000) : (y + a * p).toInt = y.toInt + g * p.toInt := by
  have hm : (a * p).toInt = g * p.toInt := by
    rw [l_mul, ha]
    rw [ha]
    rcases hg with e | e | e <;> rw [e] <;> omega
  have hb : -1000000 ≤ g * p.toInt ∧ g * p.toInt ≤ 1000000 := by rcases hg with e | e | e <;> rw [e] <;> omega
  rw [l_add (by rw [hm]; omega), hm]
theorem civ_i {Mc M : Mem} (h : RLp Mc M) (hr : -4000000000000 ≤ (f_X6_reading M).toInt ∧ (f_X6_reading M).toInt ≤ 4000000000000) : ∀ (r i : Nat) (y : Int64), i + r = 22 → i ≤ 21 → y.toInt = (f_X6_reading M).toInt + sG (gS M) i (f_X6_reading M).toInt → ((f_X6_civil_L7 M r i y).1).toInt = (f_X6_reading M).toInt + sG (gS M) 21 (f_X6_reading M).toInt := by
  intro r
  induction r with
  | zero => intro i y h1 h2; omega
  | succ r ih =>
    intro i y h1 h2 hy
    have hb := sG_rng (gS_ok h) (R := (f_X6_reading M).toInt) i
    by_cases hi : i < 21
    · rw [cv_step hi]
      refine ih (i + 1) _ (by omega) (by omega) ?_
      have hp := pt_i hi hr
      have hg : ((gB M 0 i).toInt64).toInt = gS M i := by rw [Int32.toInt_toInt64, gS, if_pos hi]
      rw [tm_num (g := gS M i) (by omega) hg (gS_ok h i) (by rw [hp]; exact pt_rng), hp, hy, sG]
      omega
    · have e : i = 21 := by omega
      subst e
      rw [f_X6_civil_L7, if_neg (by decide), bnd2_e, finl_e]
      exact hy
theorem civ_e {Mm M : Mem} {t : Int32} (h : CL Mm t M) : (civ Mm).toInt = (f_X6_reading Mm).toInt + sG (gS Mm) 21 (f_X6_reading Mm).toInt := by
  rw [civ, f_X6_civil, bnd_e]
  exact civ_i h.1.2.1 (rd_wide h.2.1) _ _ _ (by omega) (by omega) (by show _ = _ + (0 : Int); omega)
/-- what an act may do to clock and civil time, and how far true time goes -/
def GOOD (A B : Mem) : Prop := (f_X6_reading A).toInt ≤ (f_X6_reading B).toInt ∧ (civ A).toInt ≤ (civ B).toInt ∧ nowI B ≤ nowI A + 1000000000
theorem good_of {A B M u : Mem} {t t' : Int32} (h : CL A t M) (g : CL B t' u) (hr : (f_X6_reading A).toInt ≤ (f_X6_reading B).toInt) (hB : gB B 0 = gB A 0) (hn : nowI B ≤ nowI A + 1000000000) : GOOD A B := by
  refine ⟨hr, ?_, hn⟩
  have e : gS B = gS A := by funext i; rw [gS, gS, hB]
  rw [civ_e h, civ_e g, e]
  exact cI_mono (gS_ok h.1.2.1) hr
theorem good_same {A B M u : Mem} {t t' : Int32} (h : CL A t M) (g : CL B t' u) (h0 : gL B 0 = gL A 0) (h1 : gL B 1 = gL A 1) (hB : gB B 0 = gB A 0) : GOOD A B :=
  good_of h g (by rw [rd6, rd6, h1]; exact Int.le_refl _) hB (by unfold nowI; rw [h0]; omega)
