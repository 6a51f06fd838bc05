/-! numbers of acts -/
theorem div_nn {x y : Int32} (hx : 0 ≤ x.toInt) (hy : 0 < y.toInt) : 0 ≤ (x / y).toInt := by
  rw [i_div hx hy]; exact Int.ediv_nonneg hx (by omega)
theorem all_1 {y : Int32} (hy : 0 ≤ y.toInt) : 3 ≤ ((3 : Int32) + rem y 100000).toInt ∧ ((3 : Int32) + rem y 100000).toInt ≤ 900000002 := by
  have hr := rem_rng (x := y) (y := 100000) hy (by decide)
  rw [show (100000 : Int32).toInt = 100000 by decide] at hr
  have e : (3 : Int32).toInt = 3 := by decide
  rw [i_add (by rw [e]; omega), e]; omega
theorem all_2 {y : Int32} (hy : 0 ≤ y.toInt) : 3 ≤ ((3 : Int32) + rem y 900000000).toInt ∧ ((3 : Int32) + rem y 900000000).toInt ≤ 900000002 := by
  have hr := rem_rng (x := y) (y := 900000000) hy (by decide)
  rw [show (900000000 : Int32).toInt = 900000000 by decide] at hr
  have e : (3 : Int32).toInt = 3 := by decide
  rw [i_add (by rw [e]; omega), e]; omega
theorem ne_0 {x : Int32} (h : 0 < x.toInt) : ¬ x = 0 := fun q => by rw [q, show (0 : Int32).toInt = 0 by decide] at h; omega
theorem al_2 {a : Int32} (h : 3 ≤ a.toInt ∧ a.toInt ≤ 900000002) : (a - 2).toInt = a.toInt - 2 := by
  have e : (2 : Int32).toInt = 2 := by decide
  rw [i_sub (by rw [e]; omega), e]
theorem fi_r {y a : Int32} (hy : 0 ≤ y.toInt) (h : 3 ≤ a.toInt ∧ a.toInt ≤ 900000002) : 1 ≤ ((1 : Int32) + rem (y / 7) (a - 2)).toInt ∧ ((1 : Int32) + rem (y / 7) (a - 2)).toInt ≤ a.toInt - 2 := by
  have e2 := al_2 h
  have hr := rem_rng (x := y / 7) (y := a - 2) (div_nn hy (by decide)) (by rw [e2]; omega)
  rw [e2] at hr
  have e : (1 : Int32).toInt = 1 := by decide
  rw [i_add (by rw [e]; omega), e]; omega
theorem al_f {a f : Int32} (h : 3 ≤ a.toInt ∧ a.toInt ≤ 900000002) (hf : 1 ≤ f.toInt ∧ f.toInt ≤ a.toInt - 2) : (a - f).toInt = a.toInt - f.toInt ∧ ((a - f) - 1).toInt = a.toInt - f.toInt - 1 := by
  have e1 : (a - f).toInt = a.toInt - f.toInt := i_sub (by omega)
  have e : (1 : Int32).toInt = 1 := by decide
  exact ⟨e1, by rw [i_sub (by rw [e1, e]; omega), e1, e]⟩
theorem se_r {y a f : Int32} (hy : 0 ≤ y.toInt) (h : 3 ≤ a.toInt ∧ a.toInt ≤ 900000002) (hf : 1 ≤ f.toInt ∧ f.toInt ≤ a.toInt - 2) : 1 ≤ ((1 : Int32) + rem (y / 11) ((a - f) - 1)).toInt ∧ ((1 : Int32) + rem (y / 11) ((a - f) - 1)).toInt ≤ a.toInt - f.toInt - 1 := by
  obtain ⟨-, e2⟩ := al_f h hf
  have hr := rem_rng (x := y / 11) (y := (a - f) - 1) (div_nn hy (by decide)) (by rw [e2]; omega)
  rw [e2] at hr
  have e : (1 : Int32).toInt = 1 := by decide
  rw [i_add (by rw [e]; omega), e]; omega
theorem re_e {a f g : Int32} (h : 3 ≤ a.toInt ∧ a.toInt ≤ 900000002) (hf : 1 ≤ f.toInt ∧ f.toInt ≤ a.toInt - 2) (hg : 1 ≤ g.toInt ∧ g.toInt ≤ a.toInt - f.toInt - 1) : ((a - f) - g).toInt = a.toInt - f.toInt - g.toInt := by
  obtain ⟨e1, -⟩ := al_f h hf
  rw [i_sub (by rw [e1]; omega), e1]
section PS
variable {Mm M : Mem} {t : Int32} {a f g : Int32}
theorem ps_1 (n : CL Mm t M) (hn : nowI Mm ≤ 990000000000) (h : 3 ≤ a.toInt ∧ a.toInt ≤ 900000002) (hf : 1 ≤ f.toInt ∧ f.toInt ≤ a.toInt - 2) : ¬ f_X6_reading (f_X6_goOn Mm a) < f_X6_reading (f_X6_goOn Mm f) := by
  obtain ⟨e1, -⟩ := al_f h hf
  have e : f_X6_goOn (f_X6_goOn Mm f) (a - f) = f_X6_goOn Mm a := go_2 (by omega) (by omega) (by omega)
  have n1 := NI_go (t := f) n.2.1 (by omega) (by omega)
  have := (rd_go n1 (p := a - f) (by omega)).1
  rw [e] at this
  rw [l_lt]; omega
theorem go_3 (h : 3 ≤ a.toInt ∧ a.toInt ≤ 900000002) (hf : 1 ≤ f.toInt ∧ f.toInt ≤ a.toInt - 2) (hg : 1 ≤ g.toInt ∧ g.toInt ≤ a.toInt - f.toInt - 1) : f_X6_goOn (f_X6_goOn (f_X6_goOn Mm f) g) ((a - f) - g) = f_X6_goOn Mm a := by
  obtain ⟨e1, -⟩ := al_f h hf
  have e2 := re_e h hf hg
  rw [go_2 (c := a - f) (by omega) (by omega) (by omega)]
  exact go_2 (by omega) (by omega) (by omega)
theorem ps_2 (n : CL Mm t M) (hn : nowI Mm ≤ 990000000000) (h : 3 ≤ a.toInt ∧ a.toInt ≤ 900000002) (hf : 1 ≤ f.toInt ∧ f.toInt ≤ a.toInt - 2) (hg : 1 ≤ g.toInt ∧ g.toInt ≤ a.toInt - f.toInt - 1) : ¬ f_X6_reading (f_X6_goOn Mm a) < f_X6_reading (f_X6_goOn (f_X6_goOn Mm f) g) := by
  have e2 := re_e h hf hg
  have n1 := NI_go (t := f) n.2.1 (by omega) (by omega)
  have k1 := (rd_go n.2.1 (p := f) (by omega)).2
  have n2 := NI_go (t := g) n1 (by omega) (by omega)
  have := (rd_go n2 (p := (a - f) - g) (by omega)).1
  rw [go_3 h hf hg] at this
  rw [l_lt]; omega
theorem nw_1 (n : CL Mm t M) (h : 0 ≤ a.toInt ∧ a.toInt ≤ 1000000000) : nowI (f_X6_goOn Mm a) = nowI Mm + a.toInt := (rd_go n.2.1 h).2
end PS
