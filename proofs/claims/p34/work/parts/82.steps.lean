/-! the calls that change: answers and memory as functions of the reference's memory -/
def WFa (M : Mem) : Prop := (sn M ≤ 8 ∧ gI M 6 = nI (sn M)) ∧ ∀ j, j < 8 → kn M j ≤ 8 ∧ gB M 5 j = nI (kn M j)
theorem WFm.a {M : Mem} (w : WFm M) : WFa M := ⟨w.1, w.2.1⟩
def nrm (M : Mem) : Mem := sB (sB M 6 (fun _ => 0)) 7 (fun _ => 0)
theorem EQ_nrm {M : Mem} : EQ M (nrm M) := (EQ_sB (Or.inl rfl)).tr (EQ_sB (Or.inr rfl))
theorem WF_nrm {M : Mem} (w : WFa M) : WFm (nrm M) := by
  have e : EQ M (nrm M) := EQ_nrm
  refine ⟨⟨by rw [EQ_sn e]; exact w.1.1, by rw [EQ_sn e, e.1 6 (by decide) (by decide) (by decide)]; exact w.1.2⟩, fun j hj => by rw [EQ_kn e, e.2.2.1 5 (by decide) (by decide)]; exact w.2 j hj, fun j hj => Or.inl ?_, fun j hj => Or.inl ?_⟩
  · unfold nrm; rw [gB_ne (by decide), gB_eq]
  · unfold nrm; rw [gB_eq]
theorem WFa_eq {M M' : Mem} (e : EQ M M') (w : WFa M) : WFa M' :=
  ⟨⟨by rw [EQ_sn e]; exact w.1.1, by rw [EQ_sn e, e.1 6 (by decide) (by decide) (by decide)]; exact w.1.2⟩, fun j hj => by rw [EQ_kn e, e.2.2.1 5 (by decide) (by decide)]; exact w.2 j hj⟩
theorem CL_mk {M1 u : Mem} {t : Int32} (r : RR u M1) (n : NI M1) (w : WFa M1) (ht : gI u 1 = t) : CL (nrm M1) t u := ⟨RR_m r EQ_nrm, n.eq EQ_nrm, WF_nrm w, ht⟩
def ansL (bk : Int32 → Int64) (y : Int64 × Mem) : Int64 := if gI y.2 0 = 0 then y.1 else bk (gI y.2 0)
def ansI (bk : Int32 → Int32) (y : Int32 × Mem) : Int32 := if gI y.2 0 = 0 then y.1 else bk (gI y.2 0)
theorem ans_L {mp : Nat → Int32} {bk : Int32 → Int64} {x : Nat × Int64 × Mem} {y : Int64 × Mem} {L : List Nat} (h : cmpN mp x y) (hc : inC L x.1) (hb : ∀ n ∈ L, mp n ≠ 0 ∧ bk (mp n) = exL n) : (wL x).1 = ansL bk y := by
  obtain ⟨h1, h2⟩ := h
  rw [f_X6_thrown] at h1
  unfold wL ansL
  dsimp only
  by_cases c : x.1 = 0
  · rw [if_pos c] at h1
    rw [if_pos c, h1, if_pos rfl, h2 c]
  · rw [if_neg c] at h1
    obtain ⟨b1, b2⟩ := hb _ (hc.resolve_left c)
    rw [if_neg c, h1, if_neg b1, b2]
theorem ans_I {mp : Nat → Int32} {bk : Int32 → Int32} {x : Nat × Int32 × Mem} {y : Int32 × Mem} {L : List Nat} (h : cmpN mp (toJ x) (toM y)) (hc : inC L x.1) (hb : ∀ n ∈ L, mp n ≠ 0 ∧ bk (mp n) = exI n) : (wI x).1 = ansI bk y := by
  obtain ⟨h1, h2⟩ := h
  rw [f_X6_thrown] at h1
  unfold wI ansI
  unfold toJ toM at h1 h2
  dsimp only at h1 h2 ⊢
  by_cases c : x.1 = 0
  · rw [if_pos c] at h1
    rw [if_pos c, h1, if_pos rfl]
    exact t64_eq.mp (h2 c)
  · rw [if_neg c] at h1
    obtain ⟨b1, b2⟩ := hb _ (hc.resolve_left c)
    rw [if_neg c, h1, if_neg b1, b2]
def bkI (c : Int32) : Int32 := if c = 1 then -9999002 else -9999003
def bkL (c : Int32) : Int64 := if c = 1 then -9999002 else -9999003
def bkX (c : Int32) : Int64 := if c = 1 then -9999001 else if c = 2 then -9999002 else -9999003
def bkS (_ : Int32) : Int32 := -9999003
theorem two_of {P : Nat → Prop} {a b : Nat} (ha : P a) (hb : P b) : ∀ n ∈ [a, b], P n := fun n h => (List.mem_cons.mp h).elim (fun e => e ▸ ha) (fun h => (List.mem_singleton.mp h) ▸ hb)
theorem one_of {P : Nat → Prop} {a : Nat} (ha : P a) : ∀ n ∈ [a], P n := fun n h => (List.mem_singleton.mp h) ▸ ha
section ST
variable {Mm M u : Mem} {t : Int32}
theorem u_I {r : Int32} {F : Nat × Int32 × Mem} (hw : (r, u) = wI F) : r = (wI F).1 ∧ u = F.2.2 := ⟨congrArg Prod.fst hw, congrArg Prod.snd hw⟩
theorem u_L {r : Int64} {F : Nat × Int64 × Mem} (hw : (r, u) = wL F) : r = (wL F).1 ∧ u = F.2.2 := ⟨congrArg Prod.fst hw, congrArg Prod.snd hw⟩
theorem u_V {r : Int32} {F : Nat × Mem} (hw : (r, u) = wV F) : r = (wV F).1 ∧ u = F.2 := ⟨congrArg Prod.fst hw, congrArg Prod.snd hw⟩
/-! addServer -/
theorem s1_add {a b c d : Int32} (h : CL Mm t M) : gI (f_X5_addServer M a b c d).2.2 1 = t := by
  rcases add_cases h.2.2.1 h.1.1.2.2.2.2.2.2.2.2 a b c d with ⟨e, -⟩ | ⟨e, -⟩ | ⟨-, -, e, -⟩ <;> rw [e] <;> dsimp only
  · exact h.2.2.2
  · exact h.2.2.2
  · rw [gI_ne (by decide)]
    unfold set5
    rw [gI_ne (by omega), gI_ne (by omega), gI_sL, gI_sL, gI_ne (by omega), gI_ne (by omega)]
    exact h.2.2.2
theorem wf_10 {a b c d : Int32} (h : CL Mm t M) : WFa (f_X6_addServer Mm a b c d).2 := by
  rcases add_cases h.2.2.1 h.1.1.2.2.2.2.2.2.2.2 a b c d with ⟨-, e⟩ | ⟨-, e⟩ | ⟨-, h8, -, e⟩ <;> rw [e] <;> dsimp only
  · exact (WFm_sI h.2.2.1 (by decide)).a
  · exact (WFm_sI h.2.2.1 (by decide)).a
  · refine ⟨⟨by rw [sn_set (by omega)]; omega, by rw [sn_set (by omega)]; unfold set6; rw [gI_eq]⟩, fun j hj => ?_⟩
    rw [kn_set]
    unfold set6
    rw [gB_sI, gB_eq]
    by_cases e : j = sn Mm
    · rw [if_pos e, e, upd_eq]; exact ⟨by omega, rfl⟩
    · rw [if_neg e, upd_ne e]; exact WFk h.2.2.1 hj
theorem sp_added {r a b c d : Int32} (h : CL Mm t M) (hw : (r, u) = wI (f_X5_addServer M a b c d)) : r = ansI bkI (f_X6_addServer Mm a b c d) ∧ CL (nrm (f_X6_addServer Mm a b c d).2) t u := by
  obtain ⟨e1, e2⟩ := u_I hw
  refine ⟨e1.trans (ans_I (kp_10 h.2.2.1 h.1.1) (f_X5_addServer_c M a b c d) (two_of ⟨by decide, by decide⟩ ⟨by decide, by decide⟩)), ?_⟩
  exact CL_mk (by rw [e2]; exact r_10 h.2.2.1 h.1) (ni_10 h.2.1 h.2.2.1) (wf_10 h) (by rw [e2]; exact s1_add h)
theorem B_nrm {A : Mem} {a : Nat} (h6 : a ≠ 6) (h7 : a ≠ 7) : gB (nrm A) a = gB A a := EQ_nrm.2.2.1 a h6 h7
theorem L_nrm {A : Mem} {a : Nat} : gL (nrm A) a = gL A a := by unfold nrm; rw [gL_sB, gL_sB]
theorem good_added {a b c d : Int32} (h : CL Mm t M) (g : CL (nrm (f_X6_addServer Mm a b c d).2) t u) : GOOD Mm (nrm (f_X6_addServer Mm a b c d).2) := by
  rcases add_cases h.2.2.1 h.1.1.2.2.2.2.2.2.2.2 a b c d with ⟨-, e⟩ | ⟨-, e⟩ | ⟨-, h8, -, e⟩ <;> rw [e] at g ⊢ <;> dsimp only at g ⊢
  · exact good_same h g (by rw [L_nrm, gL_sI]) (by rw [L_nrm, gL_sI]) (by rw [B_nrm (by decide) (by decide), gB_sI])
  · exact good_same h g (by rw [L_nrm, gL_sI]) (by rw [L_nrm, gL_sI]) (by rw [B_nrm (by decide) (by decide), gB_sI])
  · exact good_same h g (by rw [L_nrm]; unfold set6; simp -implicitDefEqProofs (disch := decide) only [gL_eq, gL_ne, gI_eq, gI_ne, gB_eq, gB_ne, gJ_eq, gJ_ne, gL_sI, gI_sL, gI_sB, gI_sJ, gL_sB, gL_sJ, gB_sI, gB_sL, gB_sJ, gJ_sI, gJ_sL, gJ_sB]) (by rw [L_nrm]; unfold set6; simp -implicitDefEqProofs (disch := decide) only [gL_eq, gL_ne, gI_eq, gI_ne, gB_eq, gB_ne, gJ_eq, gJ_ne, gL_sI, gI_sL, gI_sB, gI_sJ, gL_sB, gL_sJ, gB_sI, gB_sL, gB_sJ, gJ_sI, gJ_sL, gJ_sB]) (by rw [B_nrm (by decide) (by decide)]; unfold set6; simp -implicitDefEqProofs (disch := decide) only [gL_eq, gL_ne, gI_eq, gI_ne, gB_eq, gB_ne, gJ_eq, gJ_ne, gL_sI, gI_sL, gI_sB, gI_sJ, gL_sB, gL_sJ, gB_sI, gB_sL, gB_sJ, gJ_sI, gJ_sL, gJ_sB])
end ST
