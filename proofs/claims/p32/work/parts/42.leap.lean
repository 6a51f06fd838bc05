/-! Int32 by its bits (the family of kit/laws/BITS, what is wanted of it) -/
def bt (x : Int32) (i : Nat) : Bool := x.toBitVec.getLsbD i
theorem b_ext {x y : Int32} (h : ∀ i, i < 32 → bt x i = bt y i) : x = y := Int32.toBitVec_inj.mp (BitVec.eq_of_getLsbD_eq (fun i hi => h i hi))
theorem b_or (x y : Int32) (i : Nat) : bt (x ||| y) i = (bt x i || bt y i) := by unfold bt; rw [Int32.toBitVec_or, BitVec.getLsbD_or]
theorem b_and (x y : Int32) (i : Nat) : bt (x &&& y) i = (bt x i && bt y i) := by unfold bt; rw [Int32.toBitVec_and, BitVec.getLsbD_and]
theorem b_xor (x y : Int32) (i : Nat) : bt (x ^^^ y) i = (bt x i ^^ bt y i) := by unfold bt; rw [Int32.toBitVec_xor, BitVec.getLsbD_xor]
theorem b_big {x : Int32} {i : Nat} (h : 32 ≤ i) : bt x i = false := BitVec.getLsbD_of_ge _ _ h
theorem b_m1 : ∀ i, i < 32 → bt (-1) i = true := by decide +kernel
theorem b_0 (i : Nat) : bt 0 i = false := BitVec.getLsbD_zero
theorem s_l : ∀ n, n < 32 → ((nI n &&& 31).toBitVec.smod 32).toNat = n := by decide +kernel
theorem b_shl (n : Nat) (hn : n < 32) (x : Int32) {i : Nat} (hi : i < 32) : bt (x <<< (nI n &&& 31)) i = (decide (n ≤ i) && bt x (i - n)) := by
  unfold bt
  rw [Int32.toBitVec_shiftLeft]
  show (x.toBitVec <<< ((nI n &&& 31).toBitVec.smod 32).toNat).getLsbD i = _
  rw [s_l n hn, BitVec.getLsbD_shiftLeft]
  rcases Nat.lt_or_ge i n with h | h
  · simp [h, Nat.not_le.mpr h]
  · simp [hi, h, Nat.not_lt.mpr h]
theorem b_sshr (n : Nat) (hn : n < 32) (x : Int32) {i : Nat} (hi : i < 32) : bt (x >>> (nI n &&& 31)) i = if n + i < 32 then bt x (n + i) else bt x 31 := by
  unfold bt
  rw [Int32.toBitVec_shiftRight]
  show (x.toBitVec.sshiftRight ((nI n &&& 31).toBitVec.smod 32).toNat).getLsbD i = _
  rw [s_l n hn, BitVec.getLsbD_sshiftRight, BitVec.msb_eq_getLsbD_last]
  simp [hi]
theorem b_one : ∀ i, i < 32 → bt 1 i = decide (i = 0) := by decide +kernel
theorem bit_0 {x : Int32} {n : Nat} (hn : n < 32) : ((x >>> (nI n &&& 31)) &&& 1) = 0 ↔ bt x n = false := by
  have h0 : bt ((x >>> (nI n &&& 31)) &&& 1) 0 = bt x n := by
    rw [b_and, b_sshr n hn x (by omega), if_pos (by omega), b_one 0 (by omega)]
    simp
  constructor
  · intro h
    rw [← h0, h, b_0]
  · intro h
    refine b_ext (fun i hi => ?_)
    rw [b_0]
    by_cases e : i = 0
    · rw [e, h0, h]
    · rw [b_and, b_one i hi, decide_eq_false e, Bool.and_false]
theorem ct0 {x : Int32} {n : Nat} (hn : n < 32) : f_X0_contains x (nI n) = if bt x n = true then 1 else 0 := by
  rw [f_X0_contains]
  by_cases h : bt x n = true
  · rw [if_neg (fun q => by rw [bit_0 hn] at q; rw [q] at h; cases h), if_pos h]
  · rw [if_pos ((bit_0 hn).mpr (by simpa using h)), if_neg h]
theorem bt_set {x : Int32} {n i : Nat} (hn : n < 32) (hi : i < 32) : bt (x ||| ((1 : Int32) <<< (nI n &&& 31))) i = (bt x i || decide (i = n)) := by
  rw [b_or, b_shl n hn 1 hi]
  congr 1
  by_cases h : n ≤ i
  · rw [b_one (i - n) (by omega), decide_eq_true h, Bool.true_and]
    exact decide_eq_decide.mpr (by omega)
  · rw [decide_eq_false h, Bool.false_and, decide_eq_false (by omega)]
/-! leap seconds -/
def RLp (Mc Mm : Mem) : Prop := ∀ d, d < 21 → (gB Mm 0 d = 0 ∧ bt (gI Mc 6) d = false ∧ bt (gI Mc 7) d = false) ∨ (gB Mm 0 d = -1 ∧ bt (gI Mc 6) d = true ∧ bt (gI Mc 7) d = false) ∨ (gB Mm 0 d = 1 ∧ bt (gI Mc 6) d = false ∧ bt (gI Mc 7) d = true)
theorem smear_eq {d : Nat} (hd : d < 21) : f_X0_smearBeginning (nI d) = f_X6_smearFrom (nI d) := by
  rw [f_X0_smearBeginning, f_X6_smearFrom]
  congr 2
  apply l_eq
  have e1 : (1 : Int64).toInt = 1 := by decide
  rw [nI_1, Int32.toInt_toInt64, nI_toInt (by omega), l_add, Int32.toInt_toInt64, nI_toInt (by omega), e1]
  · omega
  · rw [Int32.toInt_toInt64, nI_toInt (by omega), e1]; omega
theorem ann5 {M : Mem} {x b : Int32} : f_X5_announceLeap M x b = if f_X5_isWithin x 0 20 = 0 then (1, 0, M) else if f_X0_contains (gI M 6 ||| gI M 7) x = 0 then (if f_X1_reading M < f_X0_smearBeginning x then (0, f_X0_smearBeginning x, if b = 0 then sI M 7 (gI M 7 ||| ((1 : Int32) <<< (x &&& 31))) else sI M 6 (gI M 6 ||| ((1 : Int32) <<< (x &&& 31)))) else (2, 0, M)) else (2, 0, M) := by
  simp -implicitDefEqProofs (disch := decide) only [f_X5_announceLeap, f_X0_isAnnounced, f_X0_announce, bnd_e, bnd2_e]
theorem ann6 {M : Mem} {x b : Int32} : f_X6_announceLeap M x b = if f_X5_isWithin x 0 20 = 0 then (0, sI M 0 1) else if gB M 0 x.toNatClampNeg = 0 then (if f_X6_reading M < f_X6_smearFrom (nI x.toNatClampNeg) then (f_X6_smearFrom (nI x.toNatClampNeg), sB (sI M 0 0) 0 (upd (gB M 0) x.toNatClampNeg (if b = 0 then 1 else -1))) else (0, sI M 0 2)) else (0, sI M 0 2) := by
  simp -implicitDefEqProofs (disch := decide) only [f_X6_announceLeap, bnd_e, bnd2_e, ref_e, gL_eq, gL_ne, gI_eq, gI_ne, gB_eq, gB_ne, gJ_eq, gJ_ne, gL_sI, gI_sL, gI_sB, gI_sJ, gL_sB, gL_sJ, gB_sI, gB_sL, gB_sJ, gJ_sI, gJ_sL, gJ_sB, wi_in (x := x) (a := 0) (b := 20) (a' := 0) (b' := 20) (by decide) (by decide)]
  by_cases hb : b = 0
  · simp -implicitDefEqProofs (disch := decide) only [if_pos hb]
  · simp -implicitDefEqProofs (disch := decide) only [if_neg hb]
theorem day_of {x : Int32} (h : ¬ f_X5_isWithin x 0 20 = 0) : ∃ d, d < 21 ∧ x = nI d := by
  have hw := within_1 h
  have e0 : (0 : Int32).toInt = 0 := by decide
  have e1 : (20 : Int32).toInt = 20 := by decide
  refine ⟨x.toInt.toNat, by omega, i_eq ?_⟩
  rw [nI_toInt (by omega)]
  omega
theorem ann_e {Mc Mm : Mem} (h : RLp Mc Mm) {d : Nat} (hd : d < 21) : f_X0_contains (gI Mc 6 ||| gI Mc 7) (nI d) = 0 ↔ gB Mm 0 d = 0 := by
  rw [ct0 (by omega), b_or]
  rcases h d hd with ⟨h1, h2, h3⟩ | ⟨h1, h2, h3⟩ | ⟨h1, h2, h3⟩ <;> rw [h1, h2, h3] <;> decide
theorem kp_8 {Mc Mm : Mem} {x b : Int32} (h : RS Mc Mm) (hl : RLp Mc Mm) : cmpN (fun n => if n = 1 then 1 else if n = 2 then 2 else 0) (f_X5_announceLeap Mc x b) (f_X6_announceLeap Mm x b) := by
  rw [ann5, ann6]
  by_cases h1 : f_X5_isWithin x 0 20 = 0
  · rw [if_pos h1, if_pos h1]; exact cN_thr (by decide) (by decide)
  · rw [if_neg h1, if_neg h1]
    obtain ⟨d, hd, rfl⟩ := day_of h1
    rw [nI_clamp (by omega), smear_eq hd, RS_rd h]
    by_cases h2 : gB Mm 0 d = 0
    · rw [if_pos ((ann_e hl hd).mpr h2), if_pos h2]
      by_cases h3 : f_X6_reading Mm < f_X6_smearFrom (nI d)
      · rw [if_pos h3, if_pos h3]; exact cN_ok (by simp -implicitDefEqProofs (disch := decide) only [gL_eq, gL_ne, gI_eq, gI_ne, gB_eq, gB_ne, gJ_eq, gJ_ne, gL_sI, gI_sL, gI_sB, gI_sJ, gL_sB, gL_sJ, gB_sI, gB_sL, gB_sJ, gJ_sI, gJ_sL, gJ_sB]) rfl
      · rw [if_neg h3, if_neg h3]; exact cN_thr (by decide) (by decide)
    · rw [if_neg (fun q => h2 ((ann_e hl hd).mp q)), if_neg h2]; exact cN_thr (by decide) (by decide)
/-! addServer -/
theorem sn_sB {M : Mem} {i : Nat} {f : Nat → Int32} : sn (sB M i f) = sn M := by rw [sn, sn, gI_sB]
theorem sn_sJ {M : Mem} {i : Nat} {f : Nat → Int64} : sn (sJ M i f) = sn M := by rw [sn, sn, gI_sJ]
theorem sn_sL {M : Mem} {i : Nat} {v : Int64} : sn (sL M i v) = sn M := by rw [sn, sn, gI_sL]
theorem sn_sI0 {M : Mem} {i : Nat} {v : Int32} (h : 6 ≠ i) : sn (sI M i v) = sn M := by rw [sn, sn, gI_ne h]
def okS (p0 p1 p2 p3 : Int32) : Prop := ¬ f_X5_isWithin p0 1 14 = 0 ∧ ¬ f_X5_isWithin p1 (-1000000) 1000000 = 0 ∧ ¬ f_X5_isWithin p2 0 1000000 = 0 ∧ ¬ f_X5_isWithin p3 0 1000000 = 0
def set5 (M : Mem) (n : Nat) (p0 p1 p2 p3 : Int32) : Mem := sI (sI (sL (sL (sI (sI M (13 + 4 * n) p0) (14 + 4 * n) p1) (6 + 2 * n) p2.toInt64) (7 + 2 * n) p3.toInt64) (11 + 4 * n) 0) (12 + 4 * n) 0
theorem set5_e {M : Mem} {n : Nat} {p0 p1 p2 p3 : Int32} : f_X4_settle M n p0 p1 p2 p3 = set5 M n p0 p1 p2 p3 := by
  unfold set5
  simp -implicitDefEqProofs (disch := decide) only [f_X4_settle, f_X4_forget, bnd_e, bnd2_e]
theorem add5_no {M : Mem} {p0 p1 p2 p3 : Int32} (h : ¬ okS p0 p1 p2 p3) : f_X5_addServer M p0 p1 p2 p3 = (1, 0, M) := by
  simp -implicitDefEqProofs (disch := decide) only [f_X5_addServer, f_X5_isServerError, bnd_e, bnd2_e]
  by_cases h1 : f_X5_isWithin p0 1 14 = 0
  · rw [if_pos h1]
  · rw [if_neg h1]
    by_cases h2 : f_X5_isWithin p1 (-1000000) 1000000 = 0
    · rw [if_pos h2]
    · rw [if_neg h2]
      by_cases h3 : f_X5_isWithin p2 0 1000000 = 0
      · rw [if_pos h3]
      · rw [if_neg h3]
        by_cases h4 : f_X5_isWithin p3 0 1000000 = 0
        · rw [if_pos h4]
        · exact absurd ⟨h1, h2, h3, h4⟩ h
theorem add5_full {M : Mem} {p0 p1 p2 p3 : Int32} (h : okS p0 p1 p2 p3) (h8 : ¬ gI M 0 < 8) : f_X5_addServer M p0 p1 p2 p3 = (2, 0, M) := by
  obtain ⟨h1, h2, h3, h4⟩ := h
  simp -implicitDefEqProofs (disch := decide) only [f_X5_addServer, f_X5_isServerError, bnd_e, bnd2_e, if_neg h1, if_neg h2, if_neg h3, if_neg h4, if_neg h8]
theorem room_e {M : Mem} {n : Nat} (hn : n < 8) : f_X5_roomOrNull M (nI n) = some n := by
  rw [f_X5_roomOrNull, if_neg, if_pos, nI_clamp (by omega)]
  · rw [i_lt, nI_toInt (by omega), show (8 : Int32).toInt = 8 by decide]; omega
  · rw [i_lt, nI_toInt (by omega), show (0 : Int32).toInt = 0 by decide]; omega
theorem add5_ok {M : Mem} {n : Nat} {p0 p1 p2 p3 : Int32} (h : okS p0 p1 p2 p3) (hn : n < 8) (hg : gI M 0 = nI n) : f_X5_addServer M p0 p1 p2 p3 = (0, nI (n + 1) - 1, sI (set5 M n p0 p1 p2 p3) 0 (nI (n + 1))) := by
  obtain ⟨h1, h2, h3, h4⟩ := h
  have h8 : gI M 0 < 8 := by rw [hg, i_lt, nI_toInt (by omega), show (8 : Int32).toInt = 8 by decide]; omega
  have e : gI (set5 M n p0 p1 p2 p3) 0 = nI n := by
    unfold set5
    simp -implicitDefEqProofs (disch := omega) only [gL_eq, gL_ne, gI_eq, gI_ne, gB_eq, gB_ne, gJ_eq, gJ_ne, gL_sI, gI_sL, gI_sB, gI_sJ, gL_sB, gL_sJ, gB_sI, gB_sL, gB_sJ, gJ_sI, gJ_sL, gJ_sB, hg]
  simp -implicitDefEqProofs (disch := decide) only [f_X5_addServer, f_X5_isServerError, bnd_e, bnd2_e, if_neg h1, if_neg h2, if_neg h3, if_neg h4, if_pos h8]
  rw [opt_some (by rw [hg]; exact room_e hn), set5_e, e, gI_eq, nI_1]
theorem in_all {p0 p1 p2 p3 : Int32} : f_X6_in p0.toInt64 1 14 = f_X5_isWithin p0 1 14 ∧ f_X6_in p1.toInt64 (-1000000) 1000000 = f_X5_isWithin p1 (-1000000) 1000000 ∧ f_X6_in p2.toInt64 0 1000000 = f_X5_isWithin p2 0 1000000 ∧ f_X6_in p3.toInt64 0 1000000 = f_X5_isWithin p3 0 1000000 :=
  ⟨wi_in (by decide) (by decide), wi_in (by decide) (by decide), wi_in (by decide) (by decide), wi_in (by decide) (by decide)⟩
theorem add6_no {M : Mem} {p0 p1 p2 p3 : Int32} (h : ¬ okS p0 p1 p2 p3) : f_X6_addServer M p0 p1 p2 p3 = (0, sI M 0 1) := by
  obtain ⟨i1, i2, i3, i4⟩ := in_all (p0 := p0) (p1 := p1) (p2 := p2) (p3 := p3)
  simp -implicitDefEqProofs (disch := decide) only [f_X6_addServer, bnd_e, bnd2_e, ref_e, i1, i2, i3, i4]
  by_cases h1 : f_X5_isWithin p0 1 14 = 0
  · rw [if_pos h1]
  · rw [if_neg h1]
    by_cases h2 : f_X5_isWithin p1 (-1000000) 1000000 = 0
    · rw [if_pos h2]
    · rw [if_neg h2]
      by_cases h3 : f_X5_isWithin p2 0 1000000 = 0
      · rw [if_pos h3]
      · rw [if_neg h3]
        by_cases h4 : f_X5_isWithin p3 0 1000000 = 0
        · rw [if_pos h4]
        · exact absurd ⟨h1, h2, h3, h4⟩ h
theorem add6_full {M : Mem} {p0 p1 p2 p3 : Int32} (h : okS p0 p1 p2 p3) (h8 : nI (sn M) = 8) : f_X6_addServer M p0 p1 p2 p3 = (0, sI M 0 2) := by
  obtain ⟨i1, i2, i3, i4⟩ := in_all (p0 := p0) (p1 := p1) (p2 := p2) (p3 := p3)
  obtain ⟨h1, h2, h3, h4⟩ := h
  simp -implicitDefEqProofs (disch := decide) only [f_X6_addServer, bnd_e, bnd2_e, ref_e, i1, i2, i3, i4, if_neg h1, if_neg h2, if_neg h3, if_neg h4, if_pos h8]
def set6 (M : Mem) (n : Nat) (p0 p1 p2 p3 : Int32) : Mem := sI (sB (sB (sB (sB (sB (sI M 0 0) 1 (upd (gB M 1) n p0)) 2 (upd (gB M 2) n p1)) 3 (upd (gB M 3) n p2)) 4 (upd (gB M 4) n p3)) 5 (upd (gB M 5) n 0)) 6 (nI (n + 1))
theorem add6_ok {M : Mem} {p0 p1 p2 p3 : Int32} (h : okS p0 p1 p2 p3) (h8 : ¬ nI (sn M) = 8) (hs : sn M ≤ 8) : f_X6_addServer M p0 p1 p2 p3 = (nI (sn M + 1 - 1), set6 M (sn M) p0 p1 p2 p3) := by
  obtain ⟨i1, i2, i3, i4⟩ := in_all (p0 := p0) (p1 := p1) (p2 := p2) (p3 := p3)
  obtain ⟨h1, h2, h3, h4⟩ := h
  have e : ∀ N : Mem, sn (sI N 6 (nI (sn M + 1))) = sn M + 1 := fun N => sn_sI (by omega) rfl
  unfold set6
  simp -implicitDefEqProofs (disch := decide) only [f_X6_addServer, bnd_e, bnd2_e, ref_e, i1, i2, i3, i4, if_neg h1, if_neg h2, if_neg h3, if_neg h4, if_neg h8, sn_sB, sn_sI0, gL_eq, gL_ne, gI_eq, gI_ne, gB_eq, gB_ne, gJ_eq, gJ_ne, gL_sI, gI_sL, gI_sB, gI_sJ, gL_sB, gL_sJ, gB_sI, gB_sL, gB_sJ, gJ_sI, gJ_sL, gJ_sB, e]
theorem nI_8 {n : Nat} (hn : n < 2 ^ 31) : nI n = 8 ↔ n = 8 := nI_eq (b := 8) hn (by decide)
theorem add_cases {Mc Mm : Mem} (w : WFm Mm) (hg : gI Mc 0 = gI Mm 6) (p0 p1 p2 p3 : Int32) :
    (f_X5_addServer Mc p0 p1 p2 p3 = (1, 0, Mc) ∧ f_X6_addServer Mm p0 p1 p2 p3 = (0, sI Mm 0 1)) ∨ (f_X5_addServer Mc p0 p1 p2 p3 = (2, 0, Mc) ∧ f_X6_addServer Mm p0 p1 p2 p3 = (0, sI Mm 0 2)) ∨
    (okS p0 p1 p2 p3 ∧ sn Mm < 8 ∧ f_X5_addServer Mc p0 p1 p2 p3 = (0, nI (sn Mm), sI (set5 Mc (sn Mm) p0 p1 p2 p3) 0 (nI (sn Mm + 1))) ∧ f_X6_addServer Mm p0 p1 p2 p3 = (nI (sn Mm), set6 Mm (sn Mm) p0 p1 p2 p3)) := by
  obtain ⟨hs8, hs⟩ := WFs w
  by_cases h : okS p0 p1 p2 p3
  · right
    by_cases h8 : sn Mm = 8
    · left
      exact ⟨add5_full h (by rw [hg, hs, h8]; decide), add6_full h (by rw [h8]; rfl)⟩
    · right
      refine ⟨h, by omega, ?_, ?_⟩
      · rw [add5_ok h (n := sn Mm) (by omega) (hg.trans hs)]
        have e : nI (sn Mm + 1) - 1 = nI (sn Mm) := pk_sub (a := sn Mm + 1) (b := 1) (by omega)
        rw [e]
      · rw [add6_ok h (fun q => h8 ((nI_8 (by omega)).mp q)) hs8, Nat.add_sub_cancel]
  · exact Or.inl ⟨add5_no h, add6_no h⟩
theorem kp_10 {Mc Mm : Mem} (w : WFm Mm) (h : RS Mc Mm) {p0 p1 p2 p3 : Int32} : cmpN (fun n => if n = 1 then 1 else if n = 2 then 2 else 0) (toJ (f_X5_addServer Mc p0 p1 p2 p3)) (toM (f_X6_addServer Mm p0 p1 p2 p3)) := by
  rcases add_cases w h.2.2.2.2.2.2.2.2 p0 p1 p2 p3 with ⟨e1, e2⟩ | ⟨e1, e2⟩ | ⟨-, -, e1, e2⟩ <;> rw [e1, e2]
  · exact cI_thr (by decide) (by decide)
  · exact cI_thr (by decide) (by decide)
  · exact cI_ok (by unfold set6; simp -implicitDefEqProofs (disch := decide) only [gL_eq, gL_ne, gI_eq, gI_ne, gB_eq, gB_ne, gJ_eq, gJ_ne, gL_sI, gI_sL, gI_sB, gI_sJ, gL_sB, gL_sJ, gB_sI, gB_sL, gB_sJ, gJ_sI, gJ_sL, gJ_sB]) rfl
/-! no such server -/
theorem thn_no {α β : Type} {M : Mem} {n : Nat} {a : α} {f : Nat → Mem → β} {g : α → Mem → β} (hn : n ≠ 0) : thn (n, a, M) f g = f n M := by rw [thn, if_neg hn]
theorem kn_no {M : Mem} {x : Int32} (h : f_X5_serverOrNull M x = none) : f_X5_knownServer M x = (3, 0, M) := by rw [known_e, opt_none h]
theorem hr_no {M : Mem} {x : Int32} (h : f_X5_serverOrNull M x = none) : f_X5_heardServer M x = (3, 0, M) := by rw [f_X5_heardServer, kn_no h, thn_no (by decide)]
theorem ns_no {M : Mem} {x : Int32} (h : f_X6_isServer M x = 0) : f_X6_noSample M x = (1, sI M 0 1) := by
  simp -implicitDefEqProofs (disch := decide) only [f_X6_noSample, bnd_e, bnd2_e, ref_e, if_pos h]
theorem no_11 {Mc Mm : Mem} {x y : Int32} (h1 : f_X5_serverOrNull Mc x = none) (h2 : f_X6_isServer Mm x = 0) : f_X5_setError Mc x y = (3, 0, Mc) ∧ f_X6_setError Mm x y = (0, sI Mm 0 1) := by
  constructor
  · rw [f_X5_setError, kn_no h1, thn_no (by decide)]
  · simp -implicitDefEqProofs (disch := decide) only [f_X6_setError, bnd_e, bnd2_e, ref_e, if_pos h2]
theorem no_12 {Mc Mm : Mem} {x y z u : Int32} (h1 : f_X5_serverOrNull Mc x = none) (h2 : f_X6_isServer Mm x = 0) : f_X5_exchange Mc x y z u = (3, 0, Mc) ∧ f_X6_exchange Mm x y z u = (0, sI Mm 0 1) := by
  constructor
  · rw [f_X5_exchange, kn_no h1, thn_no (by decide)]
  · simp -implicitDefEqProofs (disch := decide) only [f_X6_exchange, bnd_e, bnd2_e, ref_e, if_pos h2]
    repeat' split
    all_goals rfl
theorem no_14 {Mc Mm : Mem} {x : Int32} (h1 : f_X5_serverOrNull Mc x = none) (h2 : f_X6_isServer Mm x = 0) : f_X5_samples Mc x = (3, 0, Mc) ∧ f_X6_samples Mm x = (0, sI Mm 0 1) := by
  constructor
  · rw [f_X5_samples, kn_no h1, thn_no (by decide)]
  · simp -implicitDefEqProofs (disch := decide) only [f_X6_samples, bnd_e, bnd2_e, ref_e, if_pos h2]
theorem no_15 {Mc Mm : Mem} {x : Int32} (h1 : f_X5_serverOrNull Mc x = none) (h2 : f_X6_isServer Mm x = 0) : f_X5_offset Mc x = (3, 0, Mc) ∧ f_X6_offset Mm x = (0, sI Mm 0 1) := by
  constructor
  · rw [f_X5_offset, hr_no h1, thn_no (by decide)]
  · simp -implicitDefEqProofs (disch := decide) only [f_X6_offset, bnd_e, bnd2_e, ns_no h2]
    rw [if_neg (by decide)]
theorem no_16 {Mc Mm : Mem} {x : Int32} (h1 : f_X5_serverOrNull Mc x = none) (h2 : f_X6_isServer Mm x = 0) : f_X5_delay Mc x = (3, 0, Mc) ∧ f_X6_delay Mm x = (0, sI Mm 0 1) := by
  constructor
  · rw [f_X5_delay, hr_no h1, thn_no (by decide)]
  · simp -implicitDefEqProofs (disch := decide) only [f_X6_delay, bnd_e, bnd2_e, ns_no h2]
    rw [if_neg (by decide)]
theorem no_17 {Mc Mm : Mem} {x : Int32} (h1 : f_X5_serverOrNull Mc x = none) (h2 : f_X6_isServer Mm x = 0) : f_X5_jitter Mc x = (3, 0, Mc) ∧ f_X6_jitter Mm x = (0, sI Mm 0 1) := by
  constructor
  · rw [f_X5_jitter, hr_no h1, thn_no (by decide)]
  · simp -implicitDefEqProofs (disch := decide) only [f_X6_jitter, bnd_e, bnd2_e, ns_no h2]
    rw [if_neg (by decide)]
theorem no_18 {Mc Mm : Mem} {x : Int32} (h1 : f_X5_serverOrNull Mc x = none) (h2 : f_X6_isServer Mm x = 0) : f_X5_distance Mc x = (3, 0, Mc) ∧ f_X6_distance Mm x = (0, sI Mm 0 1) := by
  constructor
  · rw [f_X5_distance, hr_no h1, thn_no (by decide)]
  · simp -implicitDefEqProofs (disch := decide) only [f_X6_distance, bnd_e, bnd2_e, ns_no h2]
    rw [if_neg (by decide)]
