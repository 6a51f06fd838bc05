theorem NI_ex {M : Mem} {j : Nat} {p1 p2 p3 : Int32} (n : NI M) (w : WFm M) (hj : j < sn M) (hx : okX p1 p2 p3) (hm : ¬ (1000000000000 : Int64) < gL M 0 + p1.toInt64 + p2.toInt64 + p3.toInt64) :
    NI (f_X6_keep (x3M M p1 p2 p3) j (xof M j p1 p2 p3) (xdl M j p1 p2 p3) (f_X6_reading (x3M M p1 p2 p3))) := by
  rw [max_3 n.1 hx] at hm
  have hm := Int.not_lt.mp hm
  obtain ⟨w1, w2, w3⟩ := okX_i hx
  have hj8 : j < 8 := Nat.lt_of_lt_of_le hj (WFs w).1
  obtain ⟨⟨n1, q1⟩, ⟨n2, q2⟩, ⟨n3, q3⟩, e, r3, s3, s3'⟩ := x_nums n w1 w2 w3 hm
  have hk3 : kn (x3M M p1 p2 p3) j ≤ 8 := (WFk (x3_w w) hj8).1
  have er := (n.2 j hj).1
  obtain ⟨u2, b2⟩ := t_add (b := xt2 M j p1) n1.1.1 er (by rw [xt2, x1M, go_B, gB_sI])
  obtain ⟨u3, b3⟩ := t_add (b := xt3 M j p1 p2) n2.1.1 er (by rw [xt3, x2M, x1M, go_B, go_B, gB_sI])
  have u2' : (xt2 M j p1).toInt = nowI M + p1.toInt + (gB M 2 j).toInt := u2.trans (congrArg (fun z => z + (gB M 2 j).toInt) q1)
  have u3' : (xt3 M j p1 p2).toInt = nowI M + p1.toInt + p2.toInt + (gB M 2 j).toInt := u3.trans (congrArg (fun z => z + (gB M 2 j).toInt) q2)
  have c0 := rd_wide n
  have c3 := rd_wide n3
  have v3 := sub_add4 b2 c0 b3 c3
  have v4 := sub_sub4 c3 c0 b3 b2
  rw [u2', u3', rd_i, rd_i] at v3 v4
  have v4' : (xdr M j p1 p2 p3).toInt = picI (x3M M p1 p2 p3) / 1000000 - picI M / 1000000 - p2.toInt := by
    unfold xdr
    rw [v4]
    clear v3 v4 c0 c3 b2 b3 u2 u3 u2' u3' r3 s3 s3'
    generalize picI (x3M M p1 p2 p3) / 1000000 - picI M / 1000000 = z
    omega
  have v5 := xdl_i v4'
  refine NI_keep n3 (x3_w w) hj8 rfl (keep_spec hj8 hk3) ?_
  have S := smp_num (a := nowI M) (o := p1.toInt) (p := p2.toInt) (b := p3.toInt) (er := (gB M 2 j).toInt) (P0 := picI M) (P3 := picI (x3M M p1 p2 p3)) r3 s3 s3' w1 w2 w3 er n.1.1.1 hm n.1.2.1.1 n.1.2.1.2 v5
  have hof : (xof M j p1 p2 p3).toInt = ((nowI M + p1.toInt + (gB M 2 j).toInt - picI M / 1000000) + (nowI M + p1.toInt + p2.toInt + (gB M 2 j).toInt - picI (x3M M p1 p2 p3) / 1000000)) / 2 := by unfold xof; rw [half_i, v3]
  have hdv : dev (x3M M p1 p2 p3) = picI (x3M M p1 p2 p3) - (nowI M + p1.toInt + p2.toInt + p3.toInt) * 1000000 := by unfold dev; rw [q3]
  rw [hof, rd_i, hdv, q3]
  exact S
theorem ni_12 {M : Mem} {x p1 p2 p3 : Int32} (n : NI M) (w : WFm M) : NI (f_X6_exchange M x p1 p2 p3).2 := by
  by_cases h : f_X6_isServer M x = 0
  · have e : f_X6_exchange M x p1 p2 p3 = (0, sI M 0 1) := by
      simp -implicitDefEqProofs (disch := decide) only [f_X6_exchange, bnd_e, bnd2_e, ref_e, if_pos h]
      repeat' split
      all_goals rfl
    rw [e]; exact NI_0 n
  · by_cases hx : okX p1 p2 p3
    · by_cases hm : (1000000000000 : Int64) < gL M 0 + p1.toInt64 + p2.toInt64 + p3.toInt64
      · rw [exs_3 h hx hm]; exact NI_0 n
      · obtain ⟨j, ⟨hj8, hj⟩, rfl⟩ := srv_of w h
        rw [exs_4 hj8 h hx hm]
        dsimp only
        exact NI_ex n w hj hx hm
    · rw [exs_2 h hx]; exact NI_0 n
