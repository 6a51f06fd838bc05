section ST2
variable {Mm M u : Mem} {t : Int32}
/-! exchange -/
theorem three_of {P : Nat → Prop} {a b c : Nat} (ha : P a) (hb : P b) (hc : P c) : ∀ n ∈ [a, b, c], P n := fun n h => (List.mem_cons.mp h).elim (fun e => e ▸ ha) (fun h => two_of hb hc n h)
theorem keep_I {k i : Nat} {a b c : Int64} (hi : i < 11) : gI (f_X4_keep M k a b c) i = gI M i := by
  simp -implicitDefEqProofs (disch := decide) only [f_X4_keep, bnd_e, bnd2_e]
  rw [gI_ne (by omega), gI_ne (by omega), push_I, push_I, push_I]
theorem el_I {p : Int32} {i : Nat} (h0 : 0 ≤ p.toInt) : gI (f_X5_elapse M p) i = gI M i := by rw [el5 h0, gI_sL, gI_sL, gI_sL]
theorem s1_ex {x a b c : Int32} (h : CL Mm t M) : gI (f_X5_exchange M x a b c).2.2 1 = t := by
  rcases srv_eq h.2.2.1 h.1.1.2.2.2.2.2.2.2.2 x with ⟨h1, -⟩ | ⟨j, hj, hj8, rfl, h1, -⟩
  · rw [f_X5_exchange, kn_no h1, thn_no (by decide)]; exact h.2.2.2
  · by_cases hx : okX a b c
    · obtain ⟨w1, w2, w3⟩ := okX_i hx
      by_cases hm : (1000000000000 : Int64) < gL M 0 + a.toInt64 + b.toInt64 + c.toInt64
      · rw [exc_3 h1 hx hm]; exact h.2.2.2
      · obtain ⟨x1, x2, x3, e⟩ := take_mem (M := M) (j := j) (p1 := a) (p2 := b) (p3 := c)
        rw [exc_4 h1 hx hm]
        dsimp only
        rw [e, keep_I (by decide), el_I w3.1, el_I w2.1, el_I w1.1]
        exact h.2.2.2
    · rw [exc_2 h1 hx]; exact h.2.2.2
theorem WFa_KP {A B : Mem} {j n' : Nat} {p1 p2 p3 : Int64} (w : WFm A) (hn : n' ≤ 8) (h : KP A B j n' p1 p2 p3) : WFa B := by
  obtain ⟨k1, -, -, k4, k5, -⟩ := h
  have es : sn B = sn A := by rw [sn, k1, ← sn]
  refine ⟨⟨by rw [es]; exact (WFs w).1, by rw [es, k1]; exact (WFs w).2⟩, fun k hk => ?_⟩
  by_cases e : k = j
  · rw [e, kn_at (by omega) k5]; exact ⟨hn, k5⟩
  · rw [kn, k4 k e, ← kn]; exact WFk w hk
theorem ex6_cases {x a b c : Int32} (n : NI Mm) (w : WFm Mm) : (∃ v y, f_X6_exchange Mm x a b c = (v, sI Mm 0 y)) ∨
    ∃ j, ∃ (p1 p2 p3 : Int64), j < 8 ∧ okX a b c ∧ nowI Mm + a.toInt + b.toInt + c.toInt ≤ 1000000000000 ∧ (f_X6_exchange Mm x a b c).2 = f_X6_keep (x3M Mm a b c) j p1 p2 p3 := by
  by_cases h : f_X6_isServer Mm x = 0
  · left
    refine ⟨0, 1, ?_⟩
    simp -implicitDefEqProofs (disch := decide) only [f_X6_exchange, bnd_e, bnd2_e, ref_e, if_pos h]
    repeat' split
    all_goals rfl
  · obtain ⟨j, ⟨hj8, hj⟩, rfl⟩ := srv_of w h
    by_cases hx : okX a b c
    · by_cases hm : (1000000000000 : Int64) < gL Mm 0 + a.toInt64 + b.toInt64 + c.toInt64
      · exact Or.inl ⟨_, _, exs_3 h hx hm⟩
      · right
        refine ⟨j, _, _, _, hj8, hx, ?_, by rw [exs_4 hj8 h hx hm]⟩
        exact Int.not_lt.mp (fun q => hm ((max_3 n.1 hx).mpr q))
    · exact Or.inl ⟨_, _, exs_2 h hx⟩
theorem kp_n {A : Mem} {j : Nat} (hk : kn A j ≤ 8) : (if kn A j = 8 then 8 else kn A j + 1) ≤ 8 := by split <;> omega
theorem wf_12 {x a b c : Int32} (n : NI Mm) (w : WFm Mm) : WFa (f_X6_exchange Mm x a b c).2 := by
  rcases ex6_cases (x := x) (a := a) (b := b) (c := c) n w with ⟨v, y, e⟩ | ⟨j, p1, p2, p3, hj, -, -, e⟩ <;> rw [e]
  · exact (WFm_sI w (by decide)).a
  · have hk3 : kn (x3M Mm a b c) j ≤ 8 := (WFk (x3_w w) hj).1
    exact WFa_KP (x3_w w) (kp_n hk3) (keep_spec hj hk3)
theorem sp_exchanged {r : Int64} {x a b c : Int32} (h : CL Mm t M) (hw : (r, u) = wL (f_X5_exchange M x a b c)) : r = ansL bkX (f_X6_exchange Mm x a b c) ∧ CL (nrm (f_X6_exchange Mm x a b c).2) t u := by
  obtain ⟨e1, e2⟩ := u_L hw
  refine ⟨e1.trans (ans_L (kp_12 h.2.2.1 h.1) (f_X5_exchange_c M x a b c) (three_of ⟨by decide, by decide⟩ ⟨by decide, by decide⟩ ⟨by decide, by decide⟩)), ?_⟩
  exact CL_mk (by rw [e2]; exact r_12 h.2.2.1 h.1) (ni_12 h.2.1 h.2.2.1) (wf_12 h.2.1 h.2.2.1) (by rw [e2]; exact s1_ex h)
theorem good_ex {x a b c : Int32} (h : CL Mm t M) (g : CL (nrm (f_X6_exchange Mm x a b c).2) t u) : GOOD Mm (nrm (f_X6_exchange Mm x a b c).2) := by
  rcases ex6_cases (x := x) (a := a) (b := b) (c := c) h.2.1 h.2.2.1 with ⟨v, y, e⟩ | ⟨j, p1, p2, p3, hj, hx, hm, e⟩ <;> rw [e] at g ⊢
  · dsimp only at g ⊢
    exact good_same h g (by rw [L_nrm, gL_sI]) (by rw [L_nrm, gL_sI]) (by rw [B_nrm (by decide) (by decide), gB_sI])
  · obtain ⟨w1, w2, w3⟩ := okX_i hx
    obtain ⟨-, -, ⟨-, q3⟩, e9, r3, s3, -⟩ := x_nums h.2.1 w1 w2 w3 hm
    have hk3 : kn (x3M Mm a b c) j ≤ 8 := (WFk (x3_w h.2.2.1) hj).1
    obtain ⟨-, k2, k3, -⟩ := keep_spec (p1 := p1) (p2 := p2) (p3 := p3) hj hk3
    refine good_of h g ?_ (by rw [B_nrm (by decide) (by decide), k3 0 (by decide), x3_B]) ?_
    · have e1 : picI (nrm (f_X6_keep (x3M Mm a b c) j p1 p2 p3)) = picI (x3M Mm a b c) := by unfold picI; rw [L_nrm, k2]
      rw [rd_i, rd_i, e1, r3]
      omega
    · have e0 : nowI (nrm (f_X6_keep (x3M Mm a b c) j p1 p2 p3)) = nowI (x3M Mm a b c) := by unfold nowI; rw [L_nrm, k2]
      rw [e0, q3]
      omega
end ST2
