def f_X5_knownServer (M : Mem) (p0 : Int32) : Nat × Nat × Mem := opt (f_X5_serverOrNull M  p0) ((3, 0, M)) (fun k_1 => (0, k_1, M))
theorem hyX5_knownServer : yX5_knownServer.cls ≠ "java/lang/invoke/MethodHandle" ∧ yX5_knownServer.cls ≠ "java/lang/invoke/VarHandle" ∧ (parseMethodDescriptor yX5_knownServer.desc).map (fun d => d.parameters.length) = some 1 := by decide +kernel
set_option maxHeartbeats 4000000 in
set_option maxRecDepth 100000 in
theorem c_X5_knownServer (l : Launch) (hfl : l.stackTraces = false) (dC : Nat → ClassId) (dI : Nat → Nat → Nat) (cA : Nat → ClassId) (ad : Nat → Nat) (hI : Inj 69 ad) (M : Mem) (p0 : Int32)  : vx_Met l yX5_knownServer (.code yX5_knownServer cX5_knownServer 3 (some (.object "Clockhouse$Server")) :: AG) ({ frames := 6, cells := 1, slots := 6, locals := 81 } : Room) (va_Pc [.ref (ad (0)), .int p0] (PX dC dI cA ad M)) (va_Qq (fun r u => ∃ j, j < 8 ∧ r = some (ad (5 + j)) ∧ (0, j, u) = f_X5_knownServer M p0) (PC dC dI cA ad) (adS 69 ad)) (XP 69 layC dC dI cA ad (fun n u => (n, 0, u) = f_X5_knownServer M p0)) 1 6 (adS 69 ad) := by
  refine xMet (by decide) (Nat.le_of_ble_eq_true rfl) ?_
  intro p e s m below meth c ls hx hb hr hml hlocks hown hts hK hP hS hl hKX htab
  have hA : ∀ q, adS 69 ad q → adS 69 ad q := fun _ h => h
  have hl : lv_has ls 3 [(0, .ref (ad (0))), (1, .int p0)] := hl
  obtain ⟨V, eV⟩ : ∃ z, z = f_X5_knownServer M p0 := ⟨_, rfl⟩
  have hv := eV
  unfold f_X5_knownServer at hv
  refine lv_aload_n hx hb dX5_knownServer_0 rfl (lv_at hl 0 rfl) ?_
  refine lv_iload_n hx hb dX5_knownServer_1 rfl (lv_at hl 1 rfl) ?_
  refine kVq hx hb hml hown hts hK hP hS hA (As := [.int p0]) (rest := []) (c_X5_serverOrNull l dC dI cA ad hI M  p0 ) (mkV hts q_303 q_47 q_300 q_302 q_2 hyX5_serverOrNull rfl rfl ⟨(Nat.le_of_ble_eq_true rfl), (Nat.le_of_ble_eq_true rfl)⟩) (w_recv hK hP (k := 0) (by decide) lyC0 (q := (RX5, TX5, 10)) rfl) rfl hl.1 rfl (Nat.le_of_ble_eq_true rfl) dX5_knownServer_2 ⟨(Nat.le_of_ble_eq_true rfl), (Nat.le_of_ble_eq_true rfl)⟩ (fun r u H locs hw hP hS _ _ => ?_)
  obtain ⟨hw, hu⟩ := hw
  rw [hu] at hP
  rcases ho : f_X5_serverOrNull M  p0 with _ | k_1
  · have hv := hv.trans (opt_none ho)
    have e9 : r = none := by rw [hw, ho]; rfl
    subst e9
    refine w_rn ?_
    refine lv_astore_nN (lv' := [(2, .null), (0, .ref (ad (0))), (1, .int p0)]) hx hb dX5_knownServer_5 rfl hl (by decide) rfl (fun ls hl => ?_)
    refine lv_aload_nN hx hb dX5_knownServer_6 rfl (lv_at hl 0 rfl) ?_
    refine lv_ifnonnullN hx hb dX5_knownServer_7 ?_
    exact vx_throw0 hx hb hfl (own := RX5) (cls := "java/lang/IndexOutOfBoundsException") (names := exNames) (ik := 209) (ic := 211) hown (by decide +kernel) (by decide +kernel) (hts _ q_626) (hts _ q_60) (ta3 hts hKX.2.2) to3 hKX.1 hKX.2.1 hS (hl.1.trans hml.symm) dX5_knownServer_10 dX5_knownServer_13 dX5_knownServer_14 dX5_knownServer_17 (fun x h => (htab x h).elim) (Nat.le_of_ble_eq_true rfl) (Nat.le_of_ble_eq_true rfl) (Nat.le_of_ble_eq_true rfl) (Nat.le_of_ble_eq_true rfl) hlocks (fun t ha hz hk => XP_mk (n := 3) (by decide) (hv.symm.trans eV) hS hP hK ha hz hk) hS.2.2 (Nat.le_of_ble_eq_true rfl) (Nat.le_of_ble_eq_true rfl)
  · have hv := hv.trans (opt_some ho)
    have e9 : r = some (ad (5 + k_1)) := by rw [hw, ho]; rfl
    subst e9
    refine w_rf ?_
    have hk_1 : k_1 < 8 := f_X5_serverOrNull_lt ho
    refine lv_astore_n (lv' := [(2, .ref (ad (5 + k_1))), (0, .ref (ad (0))), (1, .int p0)]) hx hb dX5_knownServer_5 rfl hl (by decide) rfl (fun ls hl => ?_)
    refine lv_aload_n hx hb dX5_knownServer_6 rfl (lv_at hl 0 rfl) ?_
    refine lv_ifnonnull (tgt := 18) hx hb dX5_knownServer_7 (by decide) ?_
    refine lv_aload_n hx hb dX5_knownServer_18 rfl (lv_at hl 0 rfl) ?_
    exact vx_ret (W.widen (k := 1) (n := 6) (Nat.le_of_ble_eq_true rfl) (Nat.le_of_ble_eq_true rfl) (W.aret (v := .ref (ad (5 + k_1))) hx hb hr (Or.inl ⟨_, rfl⟩) (Or.inr ⟨_, rfl⟩) (fun t ht hW => ⟨⟨some (ad (5 + k_1)), M, rfl, ⟨k_1, by omega, rfl, hv.symm.trans eV⟩, by rw [ht]; exact hP, va_K.moved hW.alike hK⟩, hS.F ht⟩) hS.2.2 dX5_knownServer_19))
def f_X5_heardServer (M : Mem) (p0 : Int32) : Nat × Nat × Mem := thn (f_X5_knownServer M p0) (fun n u => (n, 0, u)) (fun j_2 M_1 => bnd (f_X4_kept M_1 (j_2) ) fun r_3 => if r_3 = (0 : Int32) then (2, 0, M_1) else (0, j_2, M_1))
theorem hyX5_heardServer : yX5_heardServer.cls ≠ "java/lang/invoke/MethodHandle" ∧ yX5_heardServer.cls ≠ "java/lang/invoke/VarHandle" ∧ (parseMethodDescriptor yX5_heardServer.desc).map (fun d => d.parameters.length) = some 1 := by decide +kernel
set_option maxHeartbeats 4000000 in
set_option maxRecDepth 100000 in
theorem c_X5_heardServer (l : Launch) (hfl : l.stackTraces = false) (dC : Nat → ClassId) (dI : Nat → Nat → Nat) (cA : Nat → ClassId) (ad : Nat → Nat) (hI : Inj 69 ad) (M : Mem) (p0 : Int32)  : vx_Met l yX5_heardServer (.code yX5_heardServer cX5_heardServer 3 (some (.object "Clockhouse$Server")) :: AG) ({ frames := 7, cells := 2, slots := 12, locals := 103 } : Room) (va_Pc [.ref (ad (0)), .int p0] (PX dC dI cA ad M)) (va_Qq (fun r u => ∃ j, j < 8 ∧ r = some (ad (5 + j)) ∧ (0, j, u) = f_X5_heardServer M p0) (PC dC dI cA ad) (adS 69 ad)) (XP 69 layC dC dI cA ad (fun n u => (n, 0, u) = f_X5_heardServer M p0)) 2 12 (adS 69 ad) := by
  refine xMet (by decide) (Nat.le_of_ble_eq_true rfl) ?_
  intro p e s m below meth c ls hx hb hr hml hlocks hown hts hK hP hS hl hKX htab
  have hA : ∀ q, adS 69 ad q → adS 69 ad q := fun _ h => h
  have hl : lv_has ls 3 [(0, .ref (ad (0))), (1, .int p0)] := hl
  obtain ⟨V, eV⟩ : ∃ z, z = f_X5_heardServer M p0 := ⟨_, rfl⟩
  have hv := eV
  unfold f_X5_heardServer at hv
  refine lv_aload_n hx hb dX5_heardServer_0 rfl (lv_at hl 0 rfl) ?_
  refine lv_iload_n hx hb dX5_heardServer_1 rfl (lv_at hl 1 rfl) ?_
  refine kXq hx hb hml hown hts hK hP hS hKX (As := [.int p0]) (rest := []) (c_X5_knownServer l hfl dC dI cA ad hI M p0 ) (mkV hts q_625 q_47 q_622 q_624 q_14 hyX5_knownServer rfl rfl ⟨(Nat.le_of_ble_eq_true rfl), (Nat.le_of_ble_eq_true rfl)⟩) (w_recv hK hP (k := 0) (by decide) lyC0 (q := (RX5, TX5, 10)) rfl) rfl hl.1 rfl (Nat.le_of_ble_eq_true rfl) dX5_heardServer_2 ⟨(Nat.le_of_ble_eq_true rfl), (Nat.le_of_ble_eq_true rfl)⟩ (fun n u H locs ce q9 hn hw hP hS _ _ hce hcv hcl => ?_) (fun r u H locs hw hP hS _ _ => ?_)
  · have hv := thn_thr hv hw hn
    exact vx_out (fun x h => (htab x h).elim) hlocks hce hcv hcl (fun t ht ha => XP_mk hn (hv.symm.trans eV) hS hP hK ha (by rw [ht]; exact Nat.le_refl _) (fun q _ => by rw [ht])) hS.2.2 (Nat.le_of_ble_eq_true rfl) (Nat.le_of_ble_eq_true rfl)
  · obtain ⟨M_1, eM_1⟩ : ∃ z, z = u := ⟨_, rfl⟩
    rw [← eM_1] at hP hw
    obtain ⟨j_2, hj_2, e9, hw⟩ := hw
    subst e9
    refine w_rf ?_
    have hv := thn_ret hv hw
    refine lv_astore_n (lv' := [(2, .ref (ad (5 + j_2))), (0, .ref (ad (0))), (1, .int p0)]) hx hb dX5_heardServer_5 rfl hl (by decide) rfl (fun ls hl => ?_)
    refine lv_aload_n hx hb dX5_heardServer_6 rfl (lv_at hl 0 rfl) ?_
    refine kVi hx hb hml hown hts hK hP hS hA (As := []) (rest := []) (c_X4_kept l dC dI cA ad hI M_1 (j_2) (by omega)  ) (mkV hts q_311 q_52 q_308 q_309 q_310 hyX4_kept rfl rfl ⟨(Nat.le_of_ble_eq_true rfl), (Nat.le_of_ble_eq_true rfl)⟩) (w_recv hK hP (k := 5 + j_2) (by omega) (lyCs (k := j_2) (by omega)) (q := (RX4, TX4, 9)) rfl) rfl hl.1 rfl (Nat.le_of_ble_eq_true rfl) dX5_heardServer_7 ⟨(Nat.le_of_ble_eq_true rfl), (Nat.le_of_ble_eq_true rfl)⟩ (fun r u H locs hw hP hS _ _ => ?_)
    obtain ⟨hw, hu⟩ := hw
    rw [hu] at hP
    have hv := bnd_name hv hw
    obtain ⟨r_3, er_3⟩ : ∃ z, z = r := ⟨_, rfl⟩
    rw [← er_3] at hv hw
    refine w_eqi er_3.symm ?_
    have gr_3 := hw
    refine j0_ne (tgt := 21) hx hb dX5_heardServer_10 (by decide) (fun c_4 => ?_) (fun c_4 => ?_)
    · have hv := hv.trans (if_pos c_4)
      exact vx_throw0 hx hb hfl (own := RX5) (cls := "java/lang/IllegalStateException") (names := exNames) (ik := 54) (ic := 56) hown (by decide +kernel) (by decide +kernel) (hts _ q_537) (hts _ q_58) (ta2 hts hKX.2.2) to2 hKX.1 hKX.2.1 hS (hl.1.trans hml.symm) dX5_heardServer_13 dX5_heardServer_16 dX5_heardServer_17 dX5_heardServer_20 (fun x h => (htab x h).elim) (Nat.le_of_ble_eq_true rfl) (Nat.le_of_ble_eq_true rfl) (Nat.le_of_ble_eq_true rfl) (Nat.le_of_ble_eq_true rfl) hlocks (fun t ha hz hk => XP_mk (n := 2) (by decide) (hv.symm.trans eV) hS hP hK ha hz hk) hS.2.2 (Nat.le_of_ble_eq_true rfl) (Nat.le_of_ble_eq_true rfl)
    · have hv := hv.trans (if_neg c_4)
      refine lv_aload_n hx hb dX5_heardServer_21 rfl (lv_at hl 0 rfl) ?_
      exact vx_ret (W.widen (k := 2) (n := 12) (Nat.le_of_ble_eq_true rfl) (Nat.le_of_ble_eq_true rfl) (W.aret (v := .ref (ad (5 + j_2))) hx hb hr (Or.inl ⟨_, rfl⟩) (Or.inr ⟨_, rfl⟩) (fun t ht hW => ⟨⟨some (ad (5 + j_2)), M_1, rfl, ⟨j_2, by omega, rfl, hv.symm.trans eV⟩, by rw [ht]; exact hP, va_K.moved hW.alike hK⟩, hS.F ht⟩) hS.2.2 dX5_heardServer_22))
def f_X5_restart (M : Mem) (p0 : Int32) : Nat × Mem := bnd ((f_X5_isWithin p0 ((-1000000000) : Int32) (1000000000 : Int32))) fun x_1 => if x_1 = (0 : Int32) then (1, M) else bnd (f_X5_begin M  p0) fun M_3 => (0, M_3)
theorem hyX5_restart : yX5_restart.cls ≠ "java/lang/invoke/MethodHandle" ∧ yX5_restart.cls ≠ "java/lang/invoke/VarHandle" ∧ (parseMethodDescriptor yX5_restart.desc).map (fun d => d.parameters.length) = some 1 := by decide +kernel
set_option maxHeartbeats 4000000 in
set_option maxRecDepth 100000 in
theorem c_X5_restart (l : Launch) (hfl : l.stackTraces = false) (dC : Nat → ClassId) (dI : Nat → Nat → Nat) (cA : Nat → ClassId) (ad : Nat → Nat) (hI : Inj 69 ad) (M : Mem) (p0 : Int32)  : vx_Met l yX5_restart (.code yX5_restart cX5_restart 2 none :: AG) ({ frames := 6, cells := 1, slots := 6, locals := 81 } : Room) (va_Pc [.ref (ad (0)), .int p0] (PX dC dI cA ad M)) (va_Qv (fun u => (0, u) = f_X5_restart M p0) (PC dC dI cA ad) (adS 69 ad)) (XP 69 layC dC dI cA ad (fun n u => (n, u) = f_X5_restart M p0)) 1 6 (adS 69 ad) := by
  refine xMet (by decide) (Nat.le_of_ble_eq_true rfl) ?_
  intro p e s m below meth c ls hx hb hr hml hlocks hown hts hK hP hS hl hKX htab
  have hA : ∀ q, adS 69 ad q → adS 69 ad q := fun _ h => h
  have hl : lv_has ls 2 [(0, .ref (ad (0))), (1, .int p0)] := hl
  obtain ⟨V, eV⟩ : ∃ z, z = f_X5_restart M p0 := ⟨_, rfl⟩
  have hv := eV
  unfold f_X5_restart at hv
  refine lv_iload_n hx hb dX5_restart_0 rfl (lv_at hl 1 rfl) ?_
  refine lv_ldc (v := (-1000000000)) hx hb hown (hts _ q_456) dX5_restart_1 ?_
  refine lv_ldc (v := 1000000000) hx hb hown (hts _ q_457) dX5_restart_3 ?_
  refine kSi hx hb hml hown hts (As := [.int p0, .int ((-1000000000) : Int32), .int (1000000000 : Int32)]) (rest := []) (c_X5_isWithin l p0 ((-1000000000) : Int32) (1000000000 : Int32) ) (mkS hts q_460 q_47 q_458 q_459 hyX5_isWithin rfl rfl ⟨(Nat.le_of_ble_eq_true rfl), (Nat.le_of_ble_eq_true rfl)⟩) rfl hl.1 rfl (Nat.le_of_ble_eq_true rfl) dX5_restart_5 ⟨(Nat.le_of_ble_eq_true rfl), (Nat.le_of_ble_eq_true rfl)⟩ ?_
  refine lv_topi (fun x_1 ex_1 => ?_)
  have hv := bnd_name hv ex_1
  have bx_1 : x_1 = 0 ∨ x_1 = 1 := by rw [ex_1]; exact f_X5_isWithin_b p0 ((-1000000000) : Int32) (1000000000 : Int32)
  refine j0_ne (tgt := 19) hx hb dX5_restart_8 (by decide) (fun c_2 => ?_) (fun c_2 => ?_)
  · have hv := hv.trans (if_pos c_2)
    exact vx_throw0 hx hb hfl (own := RX5) (cls := "java/lang/IllegalArgumentException") (names := exNames) (ik := 47) (ic := 49) hown (by decide +kernel) (by decide +kernel) (hts _ q_461) (hts _ q_57) (ta1 hts hKX.2.2) to1 hKX.1 hKX.2.1 hS (hl.1.trans hml.symm) dX5_restart_11 dX5_restart_14 dX5_restart_15 dX5_restart_18 (fun x h => (htab x h).elim) (Nat.le_of_ble_eq_true rfl) (Nat.le_of_ble_eq_true rfl) (Nat.le_of_ble_eq_true rfl) (Nat.le_of_ble_eq_true rfl) hlocks (fun t ha hz hk => XP_mk (n := 1) (by decide) (hv.symm.trans eV) hS hP hK ha hz hk) hS.2.2 (Nat.le_of_ble_eq_true rfl) (Nat.le_of_ble_eq_true rfl)
  · have hv := hv.trans (if_neg c_2)
    refine lv_aload_n hx hb dX5_restart_19 rfl (lv_at hl 0 rfl) ?_
    refine lv_iload_n hx hb dX5_restart_20 rfl (lv_at hl 1 rfl) ?_
    refine kVv hx hb hml hown hts hK hP hS hA (As := [.int p0]) (rest := []) (c_X5_begin l dC dI cA ad hI M  p0 ) (mkV hts q_187 q_47 q_184 q_186 q_0 hyX5_begin rfl rfl ⟨(Nat.le_of_ble_eq_true rfl), (Nat.le_of_ble_eq_true rfl)⟩) (w_recv hK hP (k := 0) (by decide) lyC0 (q := (RX5, TX5, 10)) rfl) rfl hl.1 rfl (Nat.le_of_ble_eq_true rfl) dX5_restart_21 ⟨(Nat.le_of_ble_eq_true rfl), (Nat.le_of_ble_eq_true rfl)⟩ (fun u H locs hw hP hS _ _ => ?_)
    obtain ⟨M_3, eM_3⟩ : ∃ z, z = u := ⟨_, rfl⟩
    rw [← eM_3] at hP hw
    have gM_3 := hw
    have hv := bnd_name hv hw
    exact vx_ret (W.widen (k := 1) (n := 6) (Nat.le_of_ble_eq_true rfl) (Nat.le_of_ble_eq_true rfl) (W.vret hx hb hr (fun t ht hW => ⟨⟨M_3, rfl, hv.symm.trans eV, by rw [ht]; exact hP, va_K.moved hW.alike hK⟩, hS.F ht⟩) hS.2.2 dX5_restart_24))
def f_X5_pass (M : Mem) (p0 : Int32) : Nat × Int64 × Mem := bnd ((f_X5_isWithin p0 (1 : Int32) (1000000000 : Int32))) fun x_1 => if x_1 = (0 : Int32) then (1, 0, M) else bnd (f_X5_isBeyondLastTrueTime M  ((p0).toInt64)) fun r_3 => if r_3 = (0 : Int32) then bnd (f_X5_elapse M  p0) fun M_5 => bnd (f_X1_reading M_5  ) fun r_6 => (0, r_6, M_5) else (2, 0, M)
theorem hyX5_pass : yX5_pass.cls ≠ "java/lang/invoke/MethodHandle" ∧ yX5_pass.cls ≠ "java/lang/invoke/VarHandle" ∧ (parseMethodDescriptor yX5_pass.desc).map (fun d => d.parameters.length) = some 1 := by decide +kernel
set_option maxHeartbeats 4000000 in
set_option maxRecDepth 100000 in
theorem c_X5_pass (l : Launch) (hfl : l.stackTraces = false) (dC : Nat → ClassId) (dI : Nat → Nat → Nat) (cA : Nat → ClassId) (ad : Nat → Nat) (hI : Inj 69 ad) (M : Mem) (p0 : Int32)  : vx_Met l yX5_pass (.code yX5_pass cX5_pass 2 (some .long) :: AG) ({ frames := 6, cells := 1, slots := 6, locals := 81 } : Room) (va_Pc [.ref (ad (0)), .int p0] (PX dC dI cA ad M)) (va_Ql (fun r u => (0, r, u) = f_X5_pass M p0) (PC dC dI cA ad) (adS 69 ad)) (XP 69 layC dC dI cA ad (fun n u => (n, 0, u) = f_X5_pass M p0)) 1 6 (adS 69 ad) := by
  refine xMet (by decide) (Nat.le_of_ble_eq_true rfl) ?_
  intro p e s m below meth c ls hx hb hr hml hlocks hown hts hK hP hS hl hKX htab
  have hA : ∀ q, adS 69 ad q → adS 69 ad q := fun _ h => h
  have hl : lv_has ls 2 [(0, .ref (ad (0))), (1, .int p0)] := hl
  obtain ⟨V, eV⟩ : ∃ z, z = f_X5_pass M p0 := ⟨_, rfl⟩
  have hv := eV
  unfold f_X5_pass at hv
  refine lv_iload_n hx hb dX5_pass_0 rfl (lv_at hl 1 rfl) ?_
  refine lv_iconst (v := 1) hx hb dX5_pass_1 (by decide) ?_
  refine lv_ldc (v := 1000000000) hx hb hown (hts _ q_457) dX5_pass_2 ?_
  refine kSi hx hb hml hown hts (As := [.int p0, .int (1 : Int32), .int (1000000000 : Int32)]) (rest := []) (c_X5_isWithin l p0 (1 : Int32) (1000000000 : Int32) ) (mkS hts q_460 q_47 q_458 q_459 hyX5_isWithin rfl rfl ⟨(Nat.le_of_ble_eq_true rfl), (Nat.le_of_ble_eq_true rfl)⟩) rfl hl.1 rfl (Nat.le_of_ble_eq_true rfl) dX5_pass_4 ⟨(Nat.le_of_ble_eq_true rfl), (Nat.le_of_ble_eq_true rfl)⟩ ?_
  refine lv_topi (fun x_1 ex_1 => ?_)
  have hv := bnd_name hv ex_1
  have bx_1 : x_1 = 0 ∨ x_1 = 1 := by rw [ex_1]; exact f_X5_isWithin_b p0 (1 : Int32) (1000000000 : Int32)
  refine j0_ne (tgt := 18) hx hb dX5_pass_7 (by decide) (fun c_2 => ?_) (fun c_2 => ?_)
  · have hv := hv.trans (if_pos c_2)
    exact vx_throw0 hx hb hfl (own := RX5) (cls := "java/lang/IllegalArgumentException") (names := exNames) (ik := 47) (ic := 49) hown (by decide +kernel) (by decide +kernel) (hts _ q_461) (hts _ q_57) (ta1 hts hKX.2.2) to1 hKX.1 hKX.2.1 hS (hl.1.trans hml.symm) dX5_pass_10 dX5_pass_13 dX5_pass_14 dX5_pass_17 (fun x h => (htab x h).elim) (Nat.le_of_ble_eq_true rfl) (Nat.le_of_ble_eq_true rfl) (Nat.le_of_ble_eq_true rfl) (Nat.le_of_ble_eq_true rfl) hlocks (fun t ha hz hk => XP_mk (n := 1) (by decide) (hv.symm.trans eV) hS hP hK ha hz hk) hS.2.2 (Nat.le_of_ble_eq_true rfl) (Nat.le_of_ble_eq_true rfl)
  · have hv := hv.trans (if_neg c_2)
    refine lv_aload_n hx hb dX5_pass_18 rfl (lv_at hl 0 rfl) ?_
    refine lv_iload_n hx hb dX5_pass_19 rfl (lv_at hl 1 rfl) ?_
    refine lv_i2l (v := (p0).toInt64) hx hb dX5_pass_20 rfl ?_
    refine kVi hx hb hml hown hts hK hP hS hA (As := [.long ((p0).toInt64)]) (rest := []) (c_X5_isBeyondLastTrueTime l dC dI cA ad hI M  ((p0).toInt64) ) (mkV hts q_535 q_47 q_532 q_534 q_12 hyX5_isBeyondLastTrueTime rfl rfl ⟨(Nat.le_of_ble_eq_true rfl), (Nat.le_of_ble_eq_true rfl)⟩) (w_recv hK hP (k := 0) (by decide) lyC0 (q := (RX5, TX5, 10)) rfl) rfl hl.1 rfl (Nat.le_of_ble_eq_true rfl) dX5_pass_21 ⟨(Nat.le_of_ble_eq_true rfl), (Nat.le_of_ble_eq_true rfl)⟩ (fun r u H locs hw hP hS _ _ => ?_)
    obtain ⟨hw, hu⟩ := hw
    rw [hu] at hP
    have hv := bnd_name hv hw
    obtain ⟨r_3, er_3⟩ : ∃ z, z = r := ⟨_, rfl⟩
    rw [← er_3] at hv hw
    refine w_eqi er_3.symm ?_
    have gr_3 := hw
    have br_3 : r_3 = 0 ∨ r_3 = 1 := by rw [hw]; exact f_X5_isBeyondLastTrueTime_b M  ((p0).toInt64)
    refine j0_eq (tgt := 35) hx hb dX5_pass_24 (by decide) (fun c_4 => ?_) (fun c_4 => ?_)
    · have hv := hv.trans (if_pos c_4)
      refine lv_aload_n hx hb dX5_pass_35 rfl (lv_at hl 0 rfl) ?_
      refine lv_iload_n hx hb dX5_pass_36 rfl (lv_at hl 1 rfl) ?_
      refine kVv hx hb hml hown hts hK hP hS hA (As := [.int p0]) (rest := []) (c_X5_elapse l dC dI cA ad hI M  p0 ) (mkV hts q_555 q_47 q_552 q_554 q_13 hyX5_elapse rfl rfl ⟨(Nat.le_of_ble_eq_true rfl), (Nat.le_of_ble_eq_true rfl)⟩) (w_recv hK hP (k := 0) (by decide) lyC0 (q := (RX5, TX5, 10)) rfl) rfl hl.1 rfl (Nat.le_of_ble_eq_true rfl) dX5_pass_37 ⟨(Nat.le_of_ble_eq_true rfl), (Nat.le_of_ble_eq_true rfl)⟩ (fun u H locs hw hP hS _ _ => ?_)
      obtain ⟨M_5, eM_5⟩ : ∃ z, z = u := ⟨_, rfl⟩
      rw [← eM_5] at hP hw
      have gM_5 := hw
      have hv := bnd_name hv hw
      refine lv_aload_n hx hb dX5_pass_40 rfl (lv_at hl 0 rfl) ?_
      refine fg_X5_10 hx hb hts hK hP hown dX5_pass_41 ?_
      refine kVl hx hb hml hown hts hK hP hS hA (As := []) (rest := []) (c_X1_reading l dC dI cA ad hI M_5   ) (mkV hts q_239 q_48 q_236 q_237 q_238 hyX1_reading rfl rfl ⟨(Nat.le_of_ble_eq_true rfl), (Nat.le_of_ble_eq_true rfl)⟩) (w_recv hK hP (k := 1) (by decide) lyC1 (q := (RX1, TX1, 4)) rfl) rfl hl.1 rfl (Nat.le_of_ble_eq_true rfl) dX5_pass_44 ⟨(Nat.le_of_ble_eq_true rfl), (Nat.le_of_ble_eq_true rfl)⟩ (fun r u H locs hw hP hS _ _ => ?_)
      obtain ⟨hw, hu⟩ := hw
      rw [hu] at hP
      have hv := bnd_name hv hw
      obtain ⟨r_6, er_6⟩ : ∃ z, z = r := ⟨_, rfl⟩
      rw [← er_6] at hv hw
      refine w_eql er_6.symm ?_
      have gr_6 := hw
      exact vx_ret (W.widen (k := 1) (n := 6) (Nat.le_of_ble_eq_true rfl) (Nat.le_of_ble_eq_true rfl) (W.lret (v := r_6) hx hb hr (fun t ht hW => ⟨⟨_, M_5, rfl, hv.symm.trans eV, by rw [ht]; exact hP, va_K.moved hW.alike hK⟩, hS.F ht⟩) hS.2.2 dX5_pass_47))
    · have hv := hv.trans (if_neg c_4)
      exact vx_throw0 hx hb hfl (own := RX5) (cls := "java/lang/IllegalStateException") (names := exNames) (ik := 54) (ic := 56) hown (by decide +kernel) (by decide +kernel) (hts _ q_537) (hts _ q_58) (ta2 hts hKX.2.2) to2 hKX.1 hKX.2.1 hS (hl.1.trans hml.symm) dX5_pass_27 dX5_pass_30 dX5_pass_31 dX5_pass_34 (fun x h => (htab x h).elim) (Nat.le_of_ble_eq_true rfl) (Nat.le_of_ble_eq_true rfl) (Nat.le_of_ble_eq_true rfl) (Nat.le_of_ble_eq_true rfl) hlocks (fun t ha hz hk => XP_mk (n := 2) (by decide) (hv.symm.trans eV) hS hP hK ha hz hk) hS.2.2 (Nat.le_of_ble_eq_true rfl) (Nat.le_of_ble_eq_true rfl)
def f_X5_setDrift (M : Mem) (p0 : Int32) : Nat × Int32 × Mem := bnd ((f_X5_isWithin p0 ((-300) : Int32) (300 : Int32))) fun x_1 => if x_1 = (0 : Int32) then (1, 0, M) else bnd2 (f_X1_changeDrift M  p0) fun r_4 M_3 => (0, r_4, M_3)
theorem hyX5_setDrift : yX5_setDrift.cls ≠ "java/lang/invoke/MethodHandle" ∧ yX5_setDrift.cls ≠ "java/lang/invoke/VarHandle" ∧ (parseMethodDescriptor yX5_setDrift.desc).map (fun d => d.parameters.length) = some 1 := by decide +kernel
set_option maxHeartbeats 4000000 in
set_option maxRecDepth 100000 in
theorem c_X5_setDrift (l : Launch) (hfl : l.stackTraces = false) (dC : Nat → ClassId) (dI : Nat → Nat → Nat) (cA : Nat → ClassId) (ad : Nat → Nat) (hI : Inj 69 ad) (M : Mem) (p0 : Int32)  : vx_Met l yX5_setDrift (.code yX5_setDrift cX5_setDrift 2 (some .int) :: AG) ({ frames := 6, cells := 1, slots := 6, locals := 81 } : Room) (va_Pc [.ref (ad (0)), .int p0] (PX dC dI cA ad M)) (va_Qi (fun r u => (0, r, u) = f_X5_setDrift M p0) (PC dC dI cA ad) (adS 69 ad)) (XP 69 layC dC dI cA ad (fun n u => (n, 0, u) = f_X5_setDrift M p0)) 1 6 (adS 69 ad) := by
  refine xMet (by decide) (Nat.le_of_ble_eq_true rfl) ?_
  intro p e s m below meth c ls hx hb hr hml hlocks hown hts hK hP hS hl hKX htab
  have hA : ∀ q, adS 69 ad q → adS 69 ad q := fun _ h => h
  have hl : lv_has ls 2 [(0, .ref (ad (0))), (1, .int p0)] := hl
  obtain ⟨V, eV⟩ : ∃ z, z = f_X5_setDrift M p0 := ⟨_, rfl⟩
  have hv := eV
  unfold f_X5_setDrift at hv
  refine lv_iload_n hx hb dX5_setDrift_0 rfl (lv_at hl 1 rfl) ?_
  refine lv_sipush (v := (-300)) hx hb dX5_setDrift_1 (by decide) ?_
  refine lv_sipush (v := 300) hx hb dX5_setDrift_4 (by decide) ?_
  refine kSi hx hb hml hown hts (As := [.int p0, .int ((-300) : Int32), .int (300 : Int32)]) (rest := []) (c_X5_isWithin l p0 ((-300) : Int32) (300 : Int32) ) (mkS hts q_460 q_47 q_458 q_459 hyX5_isWithin rfl rfl ⟨(Nat.le_of_ble_eq_true rfl), (Nat.le_of_ble_eq_true rfl)⟩) rfl hl.1 rfl (Nat.le_of_ble_eq_true rfl) dX5_setDrift_7 ⟨(Nat.le_of_ble_eq_true rfl), (Nat.le_of_ble_eq_true rfl)⟩ ?_
  refine lv_topi (fun x_1 ex_1 => ?_)
  have hv := bnd_name hv ex_1
  have bx_1 : x_1 = 0 ∨ x_1 = 1 := by rw [ex_1]; exact f_X5_isWithin_b p0 ((-300) : Int32) (300 : Int32)
  refine j0_ne (tgt := 21) hx hb dX5_setDrift_10 (by decide) (fun c_2 => ?_) (fun c_2 => ?_)
  · have hv := hv.trans (if_pos c_2)
    exact vx_throw0 hx hb hfl (own := RX5) (cls := "java/lang/IllegalArgumentException") (names := exNames) (ik := 47) (ic := 49) hown (by decide +kernel) (by decide +kernel) (hts _ q_461) (hts _ q_57) (ta1 hts hKX.2.2) to1 hKX.1 hKX.2.1 hS (hl.1.trans hml.symm) dX5_setDrift_13 dX5_setDrift_16 dX5_setDrift_17 dX5_setDrift_20 (fun x h => (htab x h).elim) (Nat.le_of_ble_eq_true rfl) (Nat.le_of_ble_eq_true rfl) (Nat.le_of_ble_eq_true rfl) (Nat.le_of_ble_eq_true rfl) hlocks (fun t ha hz hk => XP_mk (n := 1) (by decide) (hv.symm.trans eV) hS hP hK ha hz hk) hS.2.2 (Nat.le_of_ble_eq_true rfl) (Nat.le_of_ble_eq_true rfl)
  · have hv := hv.trans (if_neg c_2)
    refine lv_aload_n hx hb dX5_setDrift_21 rfl (lv_at hl 0 rfl) ?_
    refine fg_X5_10 hx hb hts hK hP hown dX5_setDrift_22 ?_
    refine lv_iload_n hx hb dX5_setDrift_25 rfl (lv_at hl 1 rfl) ?_
    refine kVi hx hb hml hown hts hK hP hS hA (As := [.int p0]) (rest := []) (c_X1_changeDrift l dC dI cA ad hI M  p0 ) (mkV hts q_577 q_48 q_574 q_575 q_576 hyX1_changeDrift rfl rfl ⟨(Nat.le_of_ble_eq_true rfl), (Nat.le_of_ble_eq_true rfl)⟩) (w_recv hK hP (k := 1) (by decide) lyC1 (q := (RX1, TX1, 4)) rfl) rfl hl.1 rfl (Nat.le_of_ble_eq_true rfl) dX5_setDrift_26 ⟨(Nat.le_of_ble_eq_true rfl), (Nat.le_of_ble_eq_true rfl)⟩ (fun r u H locs hw hP hS _ _ => ?_)
    obtain ⟨M_3, eM_3⟩ : ∃ z, z = u := ⟨_, rfl⟩
    rw [← eM_3] at hP hw
    obtain ⟨r_4, er_4⟩ : ∃ z, z = r := ⟨_, rfl⟩
    rw [← er_4] at hw
    refine w_eqi er_4.symm ?_
    have gM_3 := hw
    have hv := bnd2_name hv hw
    exact vx_ret (W.widen (k := 1) (n := 6) (Nat.le_of_ble_eq_true rfl) (Nat.le_of_ble_eq_true rfl) (W.iret (v := r_4) hx hb hr (fun t ht hW => ⟨⟨_, M_3, rfl, hv.symm.trans eV, by rw [ht]; exact hP, va_K.moved hW.alike hK⟩, hS.F ht⟩) hS.2.2 dX5_setDrift_29))
def f_X5_announceLeap (M : Mem) (p0 : Int32) (p1 : Int32) : Nat × Int64 × Mem := bnd ((f_X5_isWithin p0 (0 : Int32) (20 : Int32))) fun x_1 => if x_1 = (0 : Int32) then (1, 0, M) else bnd ((f_X0_smearBeginning p0)) fun x_3 => bnd (f_X0_isAnnounced M  p0) fun r_4 => if r_4 = (0 : Int32) then bnd (f_X1_reading M  ) fun r_6 => if r_6 < x_3 then bnd (f_X0_announce M  p0 p1) fun M_8 => (0, x_3, M_8) else (2, 0, M) else (2, 0, M)
theorem hyX5_announceLeap : yX5_announceLeap.cls ≠ "java/lang/invoke/MethodHandle" ∧ yX5_announceLeap.cls ≠ "java/lang/invoke/VarHandle" ∧ (parseMethodDescriptor yX5_announceLeap.desc).map (fun d => d.parameters.length) = some 2 := by decide +kernel
set_option maxHeartbeats 4000000 in
set_option maxRecDepth 100000 in
theorem c_X5_announceLeap (l : Launch) (hfl : l.stackTraces = false) (dC : Nat → ClassId) (dI : Nat → Nat → Nat) (cA : Nat → ClassId) (ad : Nat → Nat) (hI : Inj 69 ad) (M : Mem) (p0 : Int32) (p1 : Int32)  : vx_Met l yX5_announceLeap (.code yX5_announceLeap cX5_announceLeap 5 (some .long) :: AG) ({ frames := 6, cells := 1, slots := 6, locals := 81 } : Room) (va_Pc [.ref (ad (0)), .int p0, .int p1] (PX dC dI cA ad M)) (va_Ql (fun r u => (0, r, u) = f_X5_announceLeap M p0 p1) (PC dC dI cA ad) (adS 69 ad)) (XP 69 layC dC dI cA ad (fun n u => (n, 0, u) = f_X5_announceLeap M p0 p1)) 1 6 (adS 69 ad) := by
  refine xMet (by decide) (Nat.le_of_ble_eq_true rfl) ?_
  intro p e s m below meth c ls hx hb hr hml hlocks hown hts hK hP hS hl hKX htab
  have hA : ∀ q, adS 69 ad q → adS 69 ad q := fun _ h => h
  have hl : lv_has ls 5 [(0, .ref (ad (0))), (1, .int p0), (2, .int p1)] := hl
  obtain ⟨V, eV⟩ : ∃ z, z = f_X5_announceLeap M p0 p1 := ⟨_, rfl⟩
  have hv := eV
  unfold f_X5_announceLeap at hv
  refine lv_iload_n hx hb dX5_announceLeap_0 rfl (lv_at hl 1 rfl) ?_
  refine lv_iconst (v := 0) hx hb dX5_announceLeap_1 (by decide) ?_
  refine lv_bipush (v := 20) hx hb dX5_announceLeap_2 (by decide) ?_
  refine kSi hx hb hml hown hts (As := [.int p0, .int (0 : Int32), .int (20 : Int32)]) (rest := []) (c_X5_isWithin l p0 (0 : Int32) (20 : Int32) ) (mkS hts q_460 q_47 q_458 q_459 hyX5_isWithin rfl rfl ⟨(Nat.le_of_ble_eq_true rfl), (Nat.le_of_ble_eq_true rfl)⟩) rfl hl.1 rfl (Nat.le_of_ble_eq_true rfl) dX5_announceLeap_4 ⟨(Nat.le_of_ble_eq_true rfl), (Nat.le_of_ble_eq_true rfl)⟩ ?_
  refine lv_topi (fun x_1 ex_1 => ?_)
  have hv := bnd_name hv ex_1
  have bx_1 : x_1 = 0 ∨ x_1 = 1 := by rw [ex_1]; exact f_X5_isWithin_b p0 (0 : Int32) (20 : Int32)
  refine j0_ne (tgt := 18) hx hb dX5_announceLeap_7 (by decide) (fun c_2 => ?_) (fun c_2 => ?_)
  · have hv := hv.trans (if_pos c_2)
    exact vx_throw0 hx hb hfl (own := RX5) (cls := "java/lang/IllegalArgumentException") (names := exNames) (ik := 47) (ic := 49) hown (by decide +kernel) (by decide +kernel) (hts _ q_461) (hts _ q_57) (ta1 hts hKX.2.2) to1 hKX.1 hKX.2.1 hS (hl.1.trans hml.symm) dX5_announceLeap_10 dX5_announceLeap_13 dX5_announceLeap_14 dX5_announceLeap_17 (fun x h => (htab x h).elim) (Nat.le_of_ble_eq_true rfl) (Nat.le_of_ble_eq_true rfl) (Nat.le_of_ble_eq_true rfl) (Nat.le_of_ble_eq_true rfl) hlocks (fun t ha hz hk => XP_mk (n := 1) (by decide) (hv.symm.trans eV) hS hP hK ha hz hk) hS.2.2 (Nat.le_of_ble_eq_true rfl) (Nat.le_of_ble_eq_true rfl)
  · have hv := hv.trans (if_neg c_2)
    refine lv_iload_n hx hb dX5_announceLeap_18 rfl (lv_at hl 1 rfl) ?_
    refine kSl hx hb hml hown hts (As := [.int p0]) (rest := []) (c_X0_smearBeginning l p0 ) (mkS hts q_279 q_49 q_585 q_278 hyX0_smearBeginning rfl rfl ⟨(Nat.le_of_ble_eq_true rfl), (Nat.le_of_ble_eq_true rfl)⟩) rfl hl.1 rfl (Nat.le_of_ble_eq_true rfl) dX5_announceLeap_19 ⟨(Nat.le_of_ble_eq_true rfl), (Nat.le_of_ble_eq_true rfl)⟩ ?_
    refine lv_topl (fun x_3 ex_3 => ?_)
    have hv := bnd_name hv ex_3
    refine lv_lstore_n (lv' := [(3, .long x_3), (0, .ref (ad (0))), (1, .int p0), (2, .int p1)]) hx hb dX5_announceLeap_22 rfl hl (by decide) rfl (fun ls hl => ?_)
    refine lv_aload_n hx hb dX5_announceLeap_23 rfl (lv_at hl 1 rfl) ?_
    refine fg_X5_19 hx hb hts hK hP hown dX5_announceLeap_24 ?_
    refine lv_iload_n hx hb dX5_announceLeap_27 rfl (lv_at hl 2 rfl) ?_
    refine kVi hx hb hml hown hts hK hP hS hA (As := [.int p0]) (rest := []) (c_X0_isAnnounced l dC dI cA ad hI M  p0 ) (mkV hts q_589 q_49 q_586 q_587 q_588 hyX0_isAnnounced rfl rfl ⟨(Nat.le_of_ble_eq_true rfl), (Nat.le_of_ble_eq_true rfl)⟩) (w_recv hK hP (k := 2) (by decide) lyC2 (q := (RX0, TX0, 2)) rfl) rfl hl.1 rfl (Nat.le_of_ble_eq_true rfl) dX5_announceLeap_28 ⟨(Nat.le_of_ble_eq_true rfl), (Nat.le_of_ble_eq_true rfl)⟩ (fun r u H locs hw hP hS _ _ => ?_)
    obtain ⟨hw, hu⟩ := hw
    rw [hu] at hP
    have hv := bnd_name hv hw
    obtain ⟨r_4, er_4⟩ : ∃ z, z = r := ⟨_, rfl⟩
    rw [← er_4] at hv hw
    refine w_eqi er_4.symm ?_
    have gr_4 := hw
    have br_4 : r_4 = 0 ∨ r_4 = 1 := by rw [hw]; exact f_X0_isAnnounced_b M  p0
    refine j0_ne (tgt := 46) hx hb dX5_announceLeap_31 (by decide) (fun c_5 => ?_) (fun c_5 => ?_)
    · have hv := hv.trans (if_pos c_5)
      refine lv_aload_n hx hb dX5_announceLeap_34 rfl (lv_at hl 1 rfl) ?_
      refine fg_X5_10 hx hb hts hK hP hown dX5_announceLeap_35 ?_
      refine kVl hx hb hml hown hts hK hP hS hA (As := []) (rest := []) (c_X1_reading l dC dI cA ad hI M   ) (mkV hts q_239 q_48 q_236 q_237 q_238 hyX1_reading rfl rfl ⟨(Nat.le_of_ble_eq_true rfl), (Nat.le_of_ble_eq_true rfl)⟩) (w_recv hK hP (k := 1) (by decide) lyC1 (q := (RX1, TX1, 4)) rfl) rfl hl.1 rfl (Nat.le_of_ble_eq_true rfl) dX5_announceLeap_38 ⟨(Nat.le_of_ble_eq_true rfl), (Nat.le_of_ble_eq_true rfl)⟩ (fun r u H locs hw hP hS _ _ => ?_)
      obtain ⟨hw, hu⟩ := hw
      rw [hu] at hP
      have hv := bnd_name hv hw
      obtain ⟨r_6, er_6⟩ : ∃ z, z = r := ⟨_, rfl⟩
      rw [← er_6] at hv hw
      refine w_eql er_6.symm ?_
      have gr_6 := hw
      refine lv_lload_n hx hb dX5_announceLeap_41 rfl (lv_at hl 0 rfl) ?_
      refine jL_lt (tgt := 54) hx hb dX5_announceLeap_42 dX5_announceLeap_43 (by decide) (fun c_7 => ?_) (fun c_7 => ?_)
      · have hv := hv.trans (if_pos c_7)
        refine lv_aload_n hx hb dX5_announceLeap_54 rfl (lv_at hl 1 rfl) ?_
        refine fg_X5_19 hx hb hts hK hP hown dX5_announceLeap_55 ?_
        refine lv_iload_n hx hb dX5_announceLeap_58 rfl (lv_at hl 2 rfl) ?_
        refine lv_iload_n hx hb dX5_announceLeap_59 rfl (lv_at hl 3 rfl) ?_
        refine kVv hx hb hml hown hts hK hP hS hA (As := [.int p0, .int p1]) (rest := []) (c_X0_announce l dC dI cA ad hI M  p0 p1 ) (mkV hts q_593 q_49 q_590 q_591 q_592 hyX0_announce rfl rfl ⟨(Nat.le_of_ble_eq_true rfl), (Nat.le_of_ble_eq_true rfl)⟩) (w_recv hK hP (k := 2) (by decide) lyC2 (q := (RX0, TX0, 2)) rfl) rfl hl.1 rfl (Nat.le_of_ble_eq_true rfl) dX5_announceLeap_60 ⟨(Nat.le_of_ble_eq_true rfl), (Nat.le_of_ble_eq_true rfl)⟩ (fun u H locs hw hP hS _ _ => ?_)
        obtain ⟨M_8, eM_8⟩ : ∃ z, z = u := ⟨_, rfl⟩
        rw [← eM_8] at hP hw
        have gM_8 := hw
        have hv := bnd_name hv hw
        refine lv_lload_n hx hb dX5_announceLeap_63 rfl (lv_at hl 0 rfl) ?_
        exact vx_ret (W.widen (k := 1) (n := 6) (Nat.le_of_ble_eq_true rfl) (Nat.le_of_ble_eq_true rfl) (W.lret (v := x_3) hx hb hr (fun t ht hW => ⟨⟨_, M_8, rfl, hv.symm.trans eV, by rw [ht]; exact hP, va_K.moved hW.alike hK⟩, hS.F ht⟩) hS.2.2 dX5_announceLeap_64))
      · have hv := hv.trans (if_neg c_7)
        exact vx_throw0 hx hb hfl (own := RX5) (cls := "java/lang/IllegalStateException") (names := exNames) (ik := 54) (ic := 56) hown (by decide +kernel) (by decide +kernel) (hts _ q_537) (hts _ q_58) (ta2 hts hKX.2.2) to2 hKX.1 hKX.2.1 hS (hl.1.trans hml.symm) dX5_announceLeap_46 dX5_announceLeap_49 dX5_announceLeap_50 dX5_announceLeap_53 (fun x h => (htab x h).elim) (Nat.le_of_ble_eq_true rfl) (Nat.le_of_ble_eq_true rfl) (Nat.le_of_ble_eq_true rfl) (Nat.le_of_ble_eq_true rfl) hlocks (fun t ha hz hk => XP_mk (n := 2) (by decide) (hv.symm.trans eV) hS hP hK ha hz hk) hS.2.2 (Nat.le_of_ble_eq_true rfl) (Nat.le_of_ble_eq_true rfl)
    · have hv := hv.trans (if_neg c_5)
      exact vx_throw0 hx hb hfl (own := RX5) (cls := "java/lang/IllegalStateException") (names := exNames) (ik := 54) (ic := 56) hown (by decide +kernel) (by decide +kernel) (hts _ q_537) (hts _ q_58) (ta2 hts hKX.2.2) to2 hKX.1 hKX.2.1 hS (hl.1.trans hml.symm) dX5_announceLeap_46 dX5_announceLeap_49 dX5_announceLeap_50 dX5_announceLeap_53 (fun x h => (htab x h).elim) (Nat.le_of_ble_eq_true rfl) (Nat.le_of_ble_eq_true rfl) (Nat.le_of_ble_eq_true rfl) (Nat.le_of_ble_eq_true rfl) hlocks (fun t ha hz hk => XP_mk (n := 2) (by decide) (hv.symm.trans eV) hS hP hK ha hz hk) hS.2.2 (Nat.le_of_ble_eq_true rfl) (Nat.le_of_ble_eq_true rfl)
def f_X5_addServer (M : Mem) (p0 : Int32) (p1 : Int32) (p2 : Int32) (p3 : Int32) : Nat × Int32 × Mem := bnd ((f_X5_isWithin p0 (1 : Int32) (14 : Int32))) fun x_1 => if x_1 = (0 : Int32) then (1, 0, M) else bnd ((f_X5_isServerError p1)) fun x_3 => if x_3 = (0 : Int32) then (1, 0, M) else bnd ((f_X5_isWithin p2 (0 : Int32) (1000000 : Int32))) fun x_5 => if x_5 = (0 : Int32) then (1, 0, M) else bnd ((f_X5_isWithin p3 (0 : Int32) (1000000 : Int32))) fun x_7 => if x_7 = (0 : Int32) then (1, 0, M) else if gI M (0) < (8 : Int32) then opt (f_X5_roomOrNull M  (gI M (0))) ((2, 0, M)) (fun k_10 => bnd (f_X4_settle M (k_10) p0 p1 p2 p3) fun M_11 => bnd (sI M_11 (0) (gI M_11 (0) + (1 : Int32))) fun M_12 => (0, (gI M_12 (0) - (1 : Int32)), M_12)) else (2, 0, M)
theorem hyX5_addServer : yX5_addServer.cls ≠ "java/lang/invoke/MethodHandle" ∧ yX5_addServer.cls ≠ "java/lang/invoke/VarHandle" ∧ (parseMethodDescriptor yX5_addServer.desc).map (fun d => d.parameters.length) = some 4 := by decide +kernel
set_option maxHeartbeats 4000000 in
set_option maxRecDepth 100000 in
theorem c_X5_addServer (l : Launch) (hfl : l.stackTraces = false) (dC : Nat → ClassId) (dI : Nat → Nat → Nat) (cA : Nat → ClassId) (ad : Nat → Nat) (hI : Inj 69 ad) (M : Mem) (p0 : Int32) (p1 : Int32) (p2 : Int32) (p3 : Int32)  : vx_Met l yX5_addServer (.code yX5_addServer cX5_addServer 6 (some .int) :: AG) ({ frames := 6, cells := 1, slots := 6, locals := 81 } : Room) (va_Pc [.ref (ad (0)), .int p0, .int p1, .int p2, .int p3] (PX dC dI cA ad M)) (va_Qi (fun r u => (0, r, u) = f_X5_addServer M p0 p1 p2 p3) (PC dC dI cA ad) (adS 69 ad)) (XP 69 layC dC dI cA ad (fun n u => (n, 0, u) = f_X5_addServer M p0 p1 p2 p3)) 1 6 (adS 69 ad) := by
  refine xMet (by decide) (Nat.le_of_ble_eq_true rfl) ?_
  intro p e s m below meth c ls hx hb hr hml hlocks hown hts hK hP hS hl hKX htab
  have hA : ∀ q, adS 69 ad q → adS 69 ad q := fun _ h => h
  have hl : lv_has ls 6 [(0, .ref (ad (0))), (1, .int p0), (2, .int p1), (3, .int p2), (4, .int p3)] := hl
  obtain ⟨V, eV⟩ : ∃ z, z = f_X5_addServer M p0 p1 p2 p3 := ⟨_, rfl⟩
  have hv := eV
  unfold f_X5_addServer at hv
  refine lv_iload_n hx hb dX5_addServer_0 rfl (lv_at hl 1 rfl) ?_
  refine lv_iconst (v := 1) hx hb dX5_addServer_1 (by decide) ?_
  refine lv_bipush (v := 14) hx hb dX5_addServer_2 (by decide) ?_
  refine kSi hx hb hml hown hts (As := [.int p0, .int (1 : Int32), .int (14 : Int32)]) (rest := []) (c_X5_isWithin l p0 (1 : Int32) (14 : Int32) ) (mkS hts q_460 q_47 q_458 q_459 hyX5_isWithin rfl rfl ⟨(Nat.le_of_ble_eq_true rfl), (Nat.le_of_ble_eq_true rfl)⟩) rfl hl.1 rfl (Nat.le_of_ble_eq_true rfl) dX5_addServer_4 ⟨(Nat.le_of_ble_eq_true rfl), (Nat.le_of_ble_eq_true rfl)⟩ ?_
  refine lv_topi (fun x_1 ex_1 => ?_)
  have hv := bnd_name hv ex_1
  have bx_1 : x_1 = 0 ∨ x_1 = 1 := by rw [ex_1]; exact f_X5_isWithin_b p0 (1 : Int32) (14 : Int32)
  refine j0_eq (tgt := 38) hx hb dX5_addServer_7 (by decide) (fun c_2 => ?_) (fun c_2 => ?_)
  · have hv := hv.trans (if_pos c_2)
    exact vx_throw0 hx hb hfl (own := RX5) (cls := "java/lang/IllegalArgumentException") (names := exNames) (ik := 47) (ic := 49) hown (by decide +kernel) (by decide +kernel) (hts _ q_461) (hts _ q_57) (ta1 hts hKX.2.2) to1 hKX.1 hKX.2.1 hS (hl.1.trans hml.symm) dX5_addServer_38 dX5_addServer_41 dX5_addServer_42 dX5_addServer_45 (fun x h => (htab x h).elim) (Nat.le_of_ble_eq_true rfl) (Nat.le_of_ble_eq_true rfl) (Nat.le_of_ble_eq_true rfl) (Nat.le_of_ble_eq_true rfl) hlocks (fun t ha hz hk => XP_mk (n := 1) (by decide) (hv.symm.trans eV) hS hP hK ha hz hk) hS.2.2 (Nat.le_of_ble_eq_true rfl) (Nat.le_of_ble_eq_true rfl)
  · have hv := hv.trans (if_neg c_2)
    refine lv_iload_n hx hb dX5_addServer_10 rfl (lv_at hl 2 rfl) ?_
    refine kSi hx hb hml hown hts (As := [.int p1]) (rest := []) (c_X5_isServerError l p1 ) (mkS hts q_603 q_47 q_601 q_602 hyX5_isServerError rfl rfl ⟨(Nat.le_of_ble_eq_true rfl), (Nat.le_of_ble_eq_true rfl)⟩) rfl hl.1 rfl (Nat.le_of_ble_eq_true rfl) dX5_addServer_11 ⟨(Nat.le_of_ble_eq_true rfl), (Nat.le_of_ble_eq_true rfl)⟩ ?_
    refine lv_topi (fun x_3 ex_3 => ?_)
    have hv := bnd_name hv ex_3
    have bx_3 : x_3 = 0 ∨ x_3 = 1 := by rw [ex_3]; exact f_X5_isServerError_b p1
    refine j0_eq (tgt := 38) hx hb dX5_addServer_14 (by decide) (fun c_4 => ?_) (fun c_4 => ?_)
    · have hv := hv.trans (if_pos c_4)
      exact vx_throw0 hx hb hfl (own := RX5) (cls := "java/lang/IllegalArgumentException") (names := exNames) (ik := 47) (ic := 49) hown (by decide +kernel) (by decide +kernel) (hts _ q_461) (hts _ q_57) (ta1 hts hKX.2.2) to1 hKX.1 hKX.2.1 hS (hl.1.trans hml.symm) dX5_addServer_38 dX5_addServer_41 dX5_addServer_42 dX5_addServer_45 (fun x h => (htab x h).elim) (Nat.le_of_ble_eq_true rfl) (Nat.le_of_ble_eq_true rfl) (Nat.le_of_ble_eq_true rfl) (Nat.le_of_ble_eq_true rfl) hlocks (fun t ha hz hk => XP_mk (n := 1) (by decide) (hv.symm.trans eV) hS hP hK ha hz hk) hS.2.2 (Nat.le_of_ble_eq_true rfl) (Nat.le_of_ble_eq_true rfl)
    · have hv := hv.trans (if_neg c_4)
      refine lv_iload_n hx hb dX5_addServer_17 rfl (lv_at hl 3 rfl) ?_
      refine lv_iconst (v := 0) hx hb dX5_addServer_18 (by decide) ?_
      refine lv_ldc (v := 1000000) hx hb hown (hts _ q_605) dX5_addServer_19 ?_
      refine kSi hx hb hml hown hts (As := [.int p2, .int (0 : Int32), .int (1000000 : Int32)]) (rest := []) (c_X5_isWithin l p2 (0 : Int32) (1000000 : Int32) ) (mkS hts q_460 q_47 q_458 q_459 hyX5_isWithin rfl rfl ⟨(Nat.le_of_ble_eq_true rfl), (Nat.le_of_ble_eq_true rfl)⟩) rfl hl.1 rfl (Nat.le_of_ble_eq_true rfl) dX5_addServer_21 ⟨(Nat.le_of_ble_eq_true rfl), (Nat.le_of_ble_eq_true rfl)⟩ ?_
      refine lv_topi (fun x_5 ex_5 => ?_)
      have hv := bnd_name hv ex_5
      have bx_5 : x_5 = 0 ∨ x_5 = 1 := by rw [ex_5]; exact f_X5_isWithin_b p2 (0 : Int32) (1000000 : Int32)
      refine j0_eq (tgt := 38) hx hb dX5_addServer_24 (by decide) (fun c_6 => ?_) (fun c_6 => ?_)
      · have hv := hv.trans (if_pos c_6)
        exact vx_throw0 hx hb hfl (own := RX5) (cls := "java/lang/IllegalArgumentException") (names := exNames) (ik := 47) (ic := 49) hown (by decide +kernel) (by decide +kernel) (hts _ q_461) (hts _ q_57) (ta1 hts hKX.2.2) to1 hKX.1 hKX.2.1 hS (hl.1.trans hml.symm) dX5_addServer_38 dX5_addServer_41 dX5_addServer_42 dX5_addServer_45 (fun x h => (htab x h).elim) (Nat.le_of_ble_eq_true rfl) (Nat.le_of_ble_eq_true rfl) (Nat.le_of_ble_eq_true rfl) (Nat.le_of_ble_eq_true rfl) hlocks (fun t ha hz hk => XP_mk (n := 1) (by decide) (hv.symm.trans eV) hS hP hK ha hz hk) hS.2.2 (Nat.le_of_ble_eq_true rfl) (Nat.le_of_ble_eq_true rfl)
      · have hv := hv.trans (if_neg c_6)
        refine lv_iload hx hb dX5_addServer_27 (lv_at hl 4 rfl) ?_
        refine lv_iconst (v := 0) hx hb dX5_addServer_29 (by decide) ?_
        refine lv_ldc (v := 1000000) hx hb hown (hts _ q_605) dX5_addServer_30 ?_
        refine kSi hx hb hml hown hts (As := [.int p3, .int (0 : Int32), .int (1000000 : Int32)]) (rest := []) (c_X5_isWithin l p3 (0 : Int32) (1000000 : Int32) ) (mkS hts q_460 q_47 q_458 q_459 hyX5_isWithin rfl rfl ⟨(Nat.le_of_ble_eq_true rfl), (Nat.le_of_ble_eq_true rfl)⟩) rfl hl.1 rfl (Nat.le_of_ble_eq_true rfl) dX5_addServer_32 ⟨(Nat.le_of_ble_eq_true rfl), (Nat.le_of_ble_eq_true rfl)⟩ ?_
        refine lv_topi (fun x_7 ex_7 => ?_)
        have hv := bnd_name hv ex_7
        have bx_7 : x_7 = 0 ∨ x_7 = 1 := by rw [ex_7]; exact f_X5_isWithin_b p3 (0 : Int32) (1000000 : Int32)
        refine j0_ne (tgt := 46) hx hb dX5_addServer_35 (by decide) (fun c_8 => ?_) (fun c_8 => ?_)
        · have hv := hv.trans (if_pos c_8)
          exact vx_throw0 hx hb hfl (own := RX5) (cls := "java/lang/IllegalArgumentException") (names := exNames) (ik := 47) (ic := 49) hown (by decide +kernel) (by decide +kernel) (hts _ q_461) (hts _ q_57) (ta1 hts hKX.2.2) to1 hKX.1 hKX.2.1 hS (hl.1.trans hml.symm) dX5_addServer_38 dX5_addServer_41 dX5_addServer_42 dX5_addServer_45 (fun x h => (htab x h).elim) (Nat.le_of_ble_eq_true rfl) (Nat.le_of_ble_eq_true rfl) (Nat.le_of_ble_eq_true rfl) (Nat.le_of_ble_eq_true rfl) hlocks (fun t ha hz hk => XP_mk (n := 1) (by decide) (hv.symm.trans eV) hS hP hK ha hz hk) hS.2.2 (Nat.le_of_ble_eq_true rfl) (Nat.le_of_ble_eq_true rfl)
        · have hv := hv.trans (if_neg c_8)
          refine lv_aload_n hx hb dX5_addServer_46 rfl (lv_at hl 0 rfl) ?_
          refine fg_X5_99 hx hb hts hK hP hown dX5_addServer_47 ?_
          refine lv_bipush (v := 8) hx hb dX5_addServer_50 (by decide) ?_
          refine jI_ge (tgt := 66) hx hb dX5_addServer_52 (by decide) (fun c_9 => ?_) (fun c_9 => ?_)
          · have hv := hv.trans (if_pos c_9)
            refine lv_aload_n hx hb dX5_addServer_55 rfl (lv_at hl 0 rfl) ?_
            refine lv_aload_n hx hb dX5_addServer_56 rfl (lv_at hl 0 rfl) ?_
            refine fg_X5_99 hx hb hts hK hP hown dX5_addServer_57 ?_
            refine kVq hx hb hml hown hts hK hP hS hA (As := [.int (gI M (0))]) (rest := []) (c_X5_roomOrNull l dC dI cA ad hI M  (gI M (0)) ) (mkV hts q_307 q_47 q_304 q_306 q_3 hyX5_roomOrNull rfl rfl ⟨(Nat.le_of_ble_eq_true rfl), (Nat.le_of_ble_eq_true rfl)⟩) (w_recv hK hP (k := 0) (by decide) lyC0 (q := (RX5, TX5, 10)) rfl) rfl hl.1 rfl (Nat.le_of_ble_eq_true rfl) dX5_addServer_60 ⟨(Nat.le_of_ble_eq_true rfl), (Nat.le_of_ble_eq_true rfl)⟩ (fun r u H locs hw hP hS _ _ => ?_)
            obtain ⟨hw, hu⟩ := hw
            rw [hu] at hP
            rcases ho : f_X5_roomOrNull M  (gI M (0)) with _ | k_10
            · have hv := hv.trans (opt_none ho)
              have e9 : r = none := by rw [hw, ho]; rfl
              subst e9
              refine w_rn ?_
              refine lv_goto (tgt := 67) hx hb dX5_addServer_63 (by decide) ?_
              refine lv_astoreN (lv' := [(5, .null), (0, .ref (ad (0))), (1, .int p0), (2, .int p1), (3, .int p2), (4, .int p3)]) hx hb dX5_addServer_67 hl (by decide) rfl (fun ls hl => ?_)
              refine lv_aloadN hx hb dX5_addServer_69 (lv_at hl 0 rfl) ?_
              refine lv_ifnonnullN hx hb dX5_addServer_71 ?_
              exact vx_throw0 hx hb hfl (own := RX5) (cls := "java/lang/IllegalStateException") (names := exNames) (ik := 54) (ic := 56) hown (by decide +kernel) (by decide +kernel) (hts _ q_537) (hts _ q_58) (ta2 hts hKX.2.2) to2 hKX.1 hKX.2.1 hS (hl.1.trans hml.symm) dX5_addServer_74 dX5_addServer_77 dX5_addServer_78 dX5_addServer_81 (fun x h => (htab x h).elim) (Nat.le_of_ble_eq_true rfl) (Nat.le_of_ble_eq_true rfl) (Nat.le_of_ble_eq_true rfl) (Nat.le_of_ble_eq_true rfl) hlocks (fun t ha hz hk => XP_mk (n := 2) (by decide) (hv.symm.trans eV) hS hP hK ha hz hk) hS.2.2 (Nat.le_of_ble_eq_true rfl) (Nat.le_of_ble_eq_true rfl)
            · have hv := hv.trans (opt_some ho)
              have e9 : r = some (ad (5 + k_10)) := by rw [hw, ho]; rfl
              subst e9
              refine w_rf ?_
              have hk_10 : k_10 < 8 := f_X5_roomOrNull_lt ho
              refine lv_goto (tgt := 67) hx hb dX5_addServer_63 (by decide) ?_
              refine lv_astore (lv' := [(5, .ref (ad (5 + k_10))), (0, .ref (ad (0))), (1, .int p0), (2, .int p1), (3, .int p2), (4, .int p3)]) hx hb dX5_addServer_67 hl (by decide) rfl (fun ls hl => ?_)
              refine lv_aload hx hb dX5_addServer_69 (lv_at hl 0 rfl) ?_
              refine lv_ifnonnull (tgt := 82) hx hb dX5_addServer_71 (by decide) ?_
              refine lv_aload hx hb dX5_addServer_82 (lv_at hl 0 rfl) ?_
              refine lv_iload_n hx hb dX5_addServer_84 rfl (lv_at hl 2 rfl) ?_
              refine lv_iload_n hx hb dX5_addServer_85 rfl (lv_at hl 3 rfl) ?_
              refine lv_iload_n hx hb dX5_addServer_86 rfl (lv_at hl 4 rfl) ?_
              refine lv_iload hx hb dX5_addServer_87 (lv_at hl 5 rfl) ?_
              refine kVv hx hb hml hown hts hK hP hS hA (As := [.int p0, .int p1, .int p2, .int p3]) (rest := []) (c_X4_settle l dC dI cA ad hI M (k_10) (by omega) p0 p1 p2 p3 ) (mkV hts q_609 q_52 q_606 q_607 q_608 hyX4_settle rfl rfl ⟨(Nat.le_of_ble_eq_true rfl), (Nat.le_of_ble_eq_true rfl)⟩) (w_recv hK hP (k := 5 + k_10) (by omega) (lyCs (k := k_10) (by omega)) (q := (RX4, TX4, 9)) rfl) rfl hl.1 rfl (Nat.le_of_ble_eq_true rfl) dX5_addServer_89 ⟨(Nat.le_of_ble_eq_true rfl), (Nat.le_of_ble_eq_true rfl)⟩ (fun u H locs hw hP hS _ _ => ?_)
              obtain ⟨M_11, eM_11⟩ : ∃ z, z = u := ⟨_, rfl⟩
              rw [← eM_11] at hP hw
              have gM_11 := hw
              have hv := bnd_name hv hw
              refine lv_aload_n hx hb dX5_addServer_92 rfl (lv_at hl 1 rfl) ?_
              refine lv_dup hx hb dX5_addServer_93 rfl ?_
              refine fg_X5_99 hx hb hts hK hP hown dX5_addServer_94 ?_
              refine lv_iconst (v := 1) hx hb dX5_addServer_97 (by decide) ?_
              refine lv_iadd hx hb dX5_addServer_98 ?_
              refine fp_X5_99 hx hb hts hK hP hI hS hA hown dX5_addServer_99 (fun H locs hP hS => ?_)
              obtain ⟨M_12, eM_12⟩ : ∃ z : Mem, z = sI M_11 (0) (gI M_11 (0) + (1 : Int32)) := ⟨_, rfl⟩
              rw [← eM_12] at hP
              have hv := bnd_name hv eM_12
              refine lv_aload_n hx hb dX5_addServer_102 rfl (lv_at hl 1 rfl) ?_
              refine fg_X5_99 hx hb hts hK hP hown dX5_addServer_103 ?_
              refine lv_iconst (v := 1) hx hb dX5_addServer_106 (by decide) ?_
              refine lv_isub hx hb dX5_addServer_107 ?_
              exact vx_ret (W.widen (k := 1) (n := 6) (Nat.le_of_ble_eq_true rfl) (Nat.le_of_ble_eq_true rfl) (W.iret (v := (gI M_12 (0) - (1 : Int32))) hx hb hr (fun t ht hW => ⟨⟨_, M_12, rfl, hv.symm.trans eV, by rw [ht]; exact hP, va_K.moved hW.alike hK⟩, hS.F ht⟩) hS.2.2 dX5_addServer_108))
          · have hv := hv.trans (if_neg c_9)
            refine lv_null hx hb dX5_addServer_66 ?_
            refine lv_astoreN (lv' := [(5, .null), (0, .ref (ad (0))), (1, .int p0), (2, .int p1), (3, .int p2), (4, .int p3)]) hx hb dX5_addServer_67 hl (by decide) rfl (fun ls hl => ?_)
            refine lv_aloadN hx hb dX5_addServer_69 (lv_at hl 0 rfl) ?_
            refine lv_ifnonnullN hx hb dX5_addServer_71 ?_
            exact vx_throw0 hx hb hfl (own := RX5) (cls := "java/lang/IllegalStateException") (names := exNames) (ik := 54) (ic := 56) hown (by decide +kernel) (by decide +kernel) (hts _ q_537) (hts _ q_58) (ta2 hts hKX.2.2) to2 hKX.1 hKX.2.1 hS (hl.1.trans hml.symm) dX5_addServer_74 dX5_addServer_77 dX5_addServer_78 dX5_addServer_81 (fun x h => (htab x h).elim) (Nat.le_of_ble_eq_true rfl) (Nat.le_of_ble_eq_true rfl) (Nat.le_of_ble_eq_true rfl) (Nat.le_of_ble_eq_true rfl) hlocks (fun t ha hz hk => XP_mk (n := 2) (by decide) (hv.symm.trans eV) hS hP hK ha hz hk) hS.2.2 (Nat.le_of_ble_eq_true rfl) (Nat.le_of_ble_eq_true rfl)
def f_X5_setError (M : Mem) (p0 : Int32) (p1 : Int32) : Nat × Int32 × Mem := thn (f_X5_knownServer M p0) (fun n u => (n, 0, u)) (fun j_2 M_1 => bnd ((f_X5_isServerError p1)) fun x_3 => if x_3 = (0 : Int32) then (1, 0, M_1) else bnd2 (f_X4_changeError M_1 (j_2) p1) fun r_6 M_5 => (0, r_6, M_5))
theorem hyX5_setError : yX5_setError.cls ≠ "java/lang/invoke/MethodHandle" ∧ yX5_setError.cls ≠ "java/lang/invoke/VarHandle" ∧ (parseMethodDescriptor yX5_setError.desc).map (fun d => d.parameters.length) = some 2 := by decide +kernel
set_option maxHeartbeats 4000000 in
set_option maxRecDepth 100000 in
theorem c_X5_setError (l : Launch) (hfl : l.stackTraces = false) (dC : Nat → ClassId) (dI : Nat → Nat → Nat) (cA : Nat → ClassId) (ad : Nat → Nat) (hI : Inj 69 ad) (M : Mem) (p0 : Int32) (p1 : Int32)  : vx_Met l yX5_setError (.code yX5_setError cX5_setError 4 (some .int) :: AG) ({ frames := 7, cells := 2, slots := 12, locals := 103 } : Room) (va_Pc [.ref (ad (0)), .int p0, .int p1] (PX dC dI cA ad M)) (va_Qi (fun r u => (0, r, u) = f_X5_setError M p0 p1) (PC dC dI cA ad) (adS 69 ad)) (XP 69 layC dC dI cA ad (fun n u => (n, 0, u) = f_X5_setError M p0 p1)) 2 12 (adS 69 ad) := by
  refine xMet (by decide) (Nat.le_of_ble_eq_true rfl) ?_
  intro p e s m below meth c ls hx hb hr hml hlocks hown hts hK hP hS hl hKX htab
  have hA : ∀ q, adS 69 ad q → adS 69 ad q := fun _ h => h
  have hl : lv_has ls 4 [(0, .ref (ad (0))), (1, .int p0), (2, .int p1)] := hl
  obtain ⟨V, eV⟩ : ∃ z, z = f_X5_setError M p0 p1 := ⟨_, rfl⟩
  have hv := eV
  unfold f_X5_setError at hv
  refine lv_aload_n hx hb dX5_setError_0 rfl (lv_at hl 0 rfl) ?_
  refine lv_iload_n hx hb dX5_setError_1 rfl (lv_at hl 1 rfl) ?_
  refine kXq hx hb hml hown hts hK hP hS hKX (As := [.int p0]) (rest := []) (c_X5_knownServer l hfl dC dI cA ad hI M p0 ) (mkV hts q_625 q_47 q_622 q_624 q_14 hyX5_knownServer rfl rfl ⟨(Nat.le_of_ble_eq_true rfl), (Nat.le_of_ble_eq_true rfl)⟩) (w_recv hK hP (k := 0) (by decide) lyC0 (q := (RX5, TX5, 10)) rfl) rfl hl.1 rfl (Nat.le_of_ble_eq_true rfl) dX5_setError_2 ⟨(Nat.le_of_ble_eq_true rfl), (Nat.le_of_ble_eq_true rfl)⟩ (fun n u H locs ce q9 hn hw hP hS _ _ hce hcv hcl => ?_) (fun r u H locs hw hP hS _ _ => ?_)
  · have hv := thn_thr hv hw hn
    exact vx_out (fun x h => (htab x h).elim) hlocks hce hcv hcl (fun t ht ha => XP_mk hn (hv.symm.trans eV) hS hP hK ha (by rw [ht]; exact Nat.le_refl _) (fun q _ => by rw [ht])) hS.2.2 (Nat.le_of_ble_eq_true rfl) (Nat.le_of_ble_eq_true rfl)
  · obtain ⟨M_1, eM_1⟩ : ∃ z, z = u := ⟨_, rfl⟩
    rw [← eM_1] at hP hw
    obtain ⟨j_2, hj_2, e9, hw⟩ := hw
    subst e9
    refine w_rf ?_
    have hv := thn_ret hv hw
    refine lv_astore_n (lv' := [(3, .ref (ad (5 + j_2))), (0, .ref (ad (0))), (1, .int p0), (2, .int p1)]) hx hb dX5_setError_5 rfl hl (by decide) rfl (fun ls hl => ?_)
    refine lv_iload_n hx hb dX5_setError_6 rfl (lv_at hl 3 rfl) ?_
    refine kSi hx hb hml hown hts (As := [.int p1]) (rest := []) (c_X5_isServerError l p1 ) (mkS hts q_603 q_47 q_601 q_602 hyX5_isServerError rfl rfl ⟨(Nat.le_of_ble_eq_true rfl), (Nat.le_of_ble_eq_true rfl)⟩) rfl hl.1 rfl (Nat.le_of_ble_eq_true rfl) dX5_setError_7 ⟨(Nat.le_of_ble_eq_true rfl), (Nat.le_of_ble_eq_true rfl)⟩ ?_
    refine lv_topi (fun x_3 ex_3 => ?_)
    have hv := bnd_name hv ex_3
    have bx_3 : x_3 = 0 ∨ x_3 = 1 := by rw [ex_3]; exact f_X5_isServerError_b p1
    refine j0_ne (tgt := 21) hx hb dX5_setError_10 (by decide) (fun c_4 => ?_) (fun c_4 => ?_)
    · have hv := hv.trans (if_pos c_4)
      exact vx_throw0 hx hb hfl (own := RX5) (cls := "java/lang/IllegalArgumentException") (names := exNames) (ik := 47) (ic := 49) hown (by decide +kernel) (by decide +kernel) (hts _ q_461) (hts _ q_57) (ta1 hts hKX.2.2) to1 hKX.1 hKX.2.1 hS (hl.1.trans hml.symm) dX5_setError_13 dX5_setError_16 dX5_setError_17 dX5_setError_20 (fun x h => (htab x h).elim) (Nat.le_of_ble_eq_true rfl) (Nat.le_of_ble_eq_true rfl) (Nat.le_of_ble_eq_true rfl) (Nat.le_of_ble_eq_true rfl) hlocks (fun t ha hz hk => XP_mk (n := 1) (by decide) (hv.symm.trans eV) hS hP hK ha hz hk) hS.2.2 (Nat.le_of_ble_eq_true rfl) (Nat.le_of_ble_eq_true rfl)
    · have hv := hv.trans (if_neg c_4)
      refine lv_aload_n hx hb dX5_setError_21 rfl (lv_at hl 0 rfl) ?_
      refine lv_iload_n hx hb dX5_setError_22 rfl (lv_at hl 3 rfl) ?_
      refine kVi hx hb hml hown hts hK hP hS hA (As := [.int p1]) (rest := []) (c_X4_changeError l dC dI cA ad hI M_1 (j_2) (by omega) p1 ) (mkV hts q_644 q_52 q_641 q_642 q_643 hyX4_changeError rfl rfl ⟨(Nat.le_of_ble_eq_true rfl), (Nat.le_of_ble_eq_true rfl)⟩) (w_recv hK hP (k := 5 + j_2) (by omega) (lyCs (k := j_2) (by omega)) (q := (RX4, TX4, 9)) rfl) rfl hl.1 rfl (Nat.le_of_ble_eq_true rfl) dX5_setError_23 ⟨(Nat.le_of_ble_eq_true rfl), (Nat.le_of_ble_eq_true rfl)⟩ (fun r u H locs hw hP hS _ _ => ?_)
      obtain ⟨M_5, eM_5⟩ : ∃ z, z = u := ⟨_, rfl⟩
      rw [← eM_5] at hP hw
      obtain ⟨r_6, er_6⟩ : ∃ z, z = r := ⟨_, rfl⟩
      rw [← er_6] at hw
      refine w_eqi er_6.symm ?_
      have gM_5 := hw
      have hv := bnd2_name hv hw
      exact vx_ret (W.widen (k := 2) (n := 12) (Nat.le_of_ble_eq_true rfl) (Nat.le_of_ble_eq_true rfl) (W.iret (v := r_6) hx hb hr (fun t ht hW => ⟨⟨_, M_5, rfl, hv.symm.trans eV, by rw [ht]; exact hP, va_K.moved hW.alike hK⟩, hS.F ht⟩) hS.2.2 dX5_setError_26))
def f_X5_exchange (M : Mem) (p0 : Int32) (p1 : Int32) (p2 : Int32) (p3 : Int32) : Nat × Int64 × Mem := thn (f_X5_knownServer M p0) (fun n u => (n, 0, u)) (fun j_2 M_1 => bnd ((f_X5_isWithin p1 (0 : Int32) (500000 : Int32))) fun x_3 => if x_3 = (0 : Int32) then (1, 0, M_1) else bnd ((f_X5_isWithin p2 (0 : Int32) (100000 : Int32))) fun x_5 => if x_5 = (0 : Int32) then (1, 0, M_1) else bnd ((f_X5_isWithin p3 (0 : Int32) (500000 : Int32))) fun x_7 => if x_7 = (0 : Int32) then (1, 0, M_1) else bnd (f_X5_isBeyondLastTrueTime M_1  (((p1).toInt64 + (p2).toInt64) + (p3).toInt64)) fun r_9 => if r_9 = (0 : Int32) then bnd2 (f_X5_takeSample M_1  (j_2) p1 p2 p3) fun r_12 M_11 => (0, r_12, M_11) else (2, 0, M_1))
theorem hyX5_exchange : yX5_exchange.cls ≠ "java/lang/invoke/MethodHandle" ∧ yX5_exchange.cls ≠ "java/lang/invoke/VarHandle" ∧ (parseMethodDescriptor yX5_exchange.desc).map (fun d => d.parameters.length) = some 4 := by decide +kernel
set_option maxHeartbeats 4000000 in
set_option maxRecDepth 100000 in
theorem c_X5_exchange (l : Launch) (hfl : l.stackTraces = false) (dC : Nat → ClassId) (dI : Nat → Nat → Nat) (cA : Nat → ClassId) (ad : Nat → Nat) (hI : Inj 69 ad) (M : Mem) (p0 : Int32) (p1 : Int32) (p2 : Int32) (p3 : Int32)  : vx_Met l yX5_exchange (.code yX5_exchange cX5_exchange 6 (some .long) :: AG) ({ frames := 7, cells := 2, slots := 12, locals := 108 } : Room) (va_Pc [.ref (ad (0)), .int p0, .int p1, .int p2, .int p3] (PX dC dI cA ad M)) (va_Ql (fun r u => (0, r, u) = f_X5_exchange M p0 p1 p2 p3) (PC dC dI cA ad) (adS 69 ad)) (XP 69 layC dC dI cA ad (fun n u => (n, 0, u) = f_X5_exchange M p0 p1 p2 p3)) 2 12 (adS 69 ad) := by
  refine xMet (by decide) (Nat.le_of_ble_eq_true rfl) ?_
  intro p e s m below meth c ls hx hb hr hml hlocks hown hts hK hP hS hl hKX htab
  have hA : ∀ q, adS 69 ad q → adS 69 ad q := fun _ h => h
  have hl : lv_has ls 6 [(0, .ref (ad (0))), (1, .int p0), (2, .int p1), (3, .int p2), (4, .int p3)] := hl
  obtain ⟨V, eV⟩ : ∃ z, z = f_X5_exchange M p0 p1 p2 p3 := ⟨_, rfl⟩
  have hv := eV
  unfold f_X5_exchange at hv
  refine lv_aload_n hx hb dX5_exchange_0 rfl (lv_at hl 0 rfl) ?_
  refine lv_iload_n hx hb dX5_exchange_1 rfl (lv_at hl 1 rfl) ?_
  refine kXq hx hb hml hown hts hK hP hS hKX (As := [.int p0]) (rest := []) (c_X5_knownServer l hfl dC dI cA ad hI M p0 ) (mkV hts q_625 q_47 q_622 q_624 q_14 hyX5_knownServer rfl rfl ⟨(Nat.le_of_ble_eq_true rfl), (Nat.le_of_ble_eq_true rfl)⟩) (w_recv hK hP (k := 0) (by decide) lyC0 (q := (RX5, TX5, 10)) rfl) rfl hl.1 rfl (Nat.le_of_ble_eq_true rfl) dX5_exchange_2 ⟨(Nat.le_of_ble_eq_true rfl), (Nat.le_of_ble_eq_true rfl)⟩ (fun n u H locs ce q9 hn hw hP hS _ _ hce hcv hcl => ?_) (fun r u H locs hw hP hS _ _ => ?_)
  · have hv := thn_thr hv hw hn
    exact vx_out (fun x h => (htab x h).elim) hlocks hce hcv hcl (fun t ht ha => XP_mk hn (hv.symm.trans eV) hS hP hK ha (by rw [ht]; exact Nat.le_refl _) (fun q _ => by rw [ht])) hS.2.2 (Nat.le_of_ble_eq_true rfl) (Nat.le_of_ble_eq_true rfl)
  · obtain ⟨M_1, eM_1⟩ : ∃ z, z = u := ⟨_, rfl⟩
    rw [← eM_1] at hP hw
    obtain ⟨j_2, hj_2, e9, hw⟩ := hw
    subst e9
    refine w_rf ?_
    have hv := thn_ret hv hw
    refine lv_astore (lv' := [(5, .ref (ad (5 + j_2))), (0, .ref (ad (0))), (1, .int p0), (2, .int p1), (3, .int p2), (4, .int p3)]) hx hb dX5_exchange_5 hl (by decide) rfl (fun ls hl => ?_)
    refine lv_iload_n hx hb dX5_exchange_7 rfl (lv_at hl 3 rfl) ?_
    refine lv_iconst (v := 0) hx hb dX5_exchange_8 (by decide) ?_
    refine lv_ldc (v := 500000) hx hb hown (hts _ q_652) dX5_exchange_9 ?_
    refine kSi hx hb hml hown hts (As := [.int p1, .int (0 : Int32), .int (500000 : Int32)]) (rest := []) (c_X5_isWithin l p1 (0 : Int32) (500000 : Int32) ) (mkS hts q_460 q_47 q_458 q_459 hyX5_isWithin rfl rfl ⟨(Nat.le_of_ble_eq_true rfl), (Nat.le_of_ble_eq_true rfl)⟩) rfl hl.1 rfl (Nat.le_of_ble_eq_true rfl) dX5_exchange_11 ⟨(Nat.le_of_ble_eq_true rfl), (Nat.le_of_ble_eq_true rfl)⟩ ?_
    refine lv_topi (fun x_3 ex_3 => ?_)
    have hv := bnd_name hv ex_3
    have bx_3 : x_3 = 0 ∨ x_3 = 1 := by rw [ex_3]; exact f_X5_isWithin_b p1 (0 : Int32) (500000 : Int32)
    refine j0_eq (tgt := 38) hx hb dX5_exchange_14 (by decide) (fun c_4 => ?_) (fun c_4 => ?_)
    · have hv := hv.trans (if_pos c_4)
      exact vx_throw0 hx hb hfl (own := RX5) (cls := "java/lang/IllegalArgumentException") (names := exNames) (ik := 47) (ic := 49) hown (by decide +kernel) (by decide +kernel) (hts _ q_461) (hts _ q_57) (ta1 hts hKX.2.2) to1 hKX.1 hKX.2.1 hS (hl.1.trans hml.symm) dX5_exchange_38 dX5_exchange_41 dX5_exchange_42 dX5_exchange_45 (fun x h => (htab x h).elim) (Nat.le_of_ble_eq_true rfl) (Nat.le_of_ble_eq_true rfl) (Nat.le_of_ble_eq_true rfl) (Nat.le_of_ble_eq_true rfl) hlocks (fun t ha hz hk => XP_mk (n := 1) (by decide) (hv.symm.trans eV) hS hP hK ha hz hk) hS.2.2 (Nat.le_of_ble_eq_true rfl) (Nat.le_of_ble_eq_true rfl)
    · have hv := hv.trans (if_neg c_4)
      refine lv_iload_n hx hb dX5_exchange_17 rfl (lv_at hl 4 rfl) ?_
      refine lv_iconst (v := 0) hx hb dX5_exchange_18 (by decide) ?_
      refine lv_ldc (v := 100000) hx hb hown (hts _ q_653) dX5_exchange_19 ?_
      refine kSi hx hb hml hown hts (As := [.int p2, .int (0 : Int32), .int (100000 : Int32)]) (rest := []) (c_X5_isWithin l p2 (0 : Int32) (100000 : Int32) ) (mkS hts q_460 q_47 q_458 q_459 hyX5_isWithin rfl rfl ⟨(Nat.le_of_ble_eq_true rfl), (Nat.le_of_ble_eq_true rfl)⟩) rfl hl.1 rfl (Nat.le_of_ble_eq_true rfl) dX5_exchange_21 ⟨(Nat.le_of_ble_eq_true rfl), (Nat.le_of_ble_eq_true rfl)⟩ ?_
      refine lv_topi (fun x_5 ex_5 => ?_)
      have hv := bnd_name hv ex_5
      have bx_5 : x_5 = 0 ∨ x_5 = 1 := by rw [ex_5]; exact f_X5_isWithin_b p2 (0 : Int32) (100000 : Int32)
      refine j0_eq (tgt := 38) hx hb dX5_exchange_24 (by decide) (fun c_6 => ?_) (fun c_6 => ?_)
      · have hv := hv.trans (if_pos c_6)
        exact vx_throw0 hx hb hfl (own := RX5) (cls := "java/lang/IllegalArgumentException") (names := exNames) (ik := 47) (ic := 49) hown (by decide +kernel) (by decide +kernel) (hts _ q_461) (hts _ q_57) (ta1 hts hKX.2.2) to1 hKX.1 hKX.2.1 hS (hl.1.trans hml.symm) dX5_exchange_38 dX5_exchange_41 dX5_exchange_42 dX5_exchange_45 (fun x h => (htab x h).elim) (Nat.le_of_ble_eq_true rfl) (Nat.le_of_ble_eq_true rfl) (Nat.le_of_ble_eq_true rfl) (Nat.le_of_ble_eq_true rfl) hlocks (fun t ha hz hk => XP_mk (n := 1) (by decide) (hv.symm.trans eV) hS hP hK ha hz hk) hS.2.2 (Nat.le_of_ble_eq_true rfl) (Nat.le_of_ble_eq_true rfl)
      · have hv := hv.trans (if_neg c_6)
        refine lv_iload hx hb dX5_exchange_27 (lv_at hl 5 rfl) ?_
        refine lv_iconst (v := 0) hx hb dX5_exchange_29 (by decide) ?_
        refine lv_ldc (v := 500000) hx hb hown (hts _ q_652) dX5_exchange_30 ?_
        refine kSi hx hb hml hown hts (As := [.int p3, .int (0 : Int32), .int (500000 : Int32)]) (rest := []) (c_X5_isWithin l p3 (0 : Int32) (500000 : Int32) ) (mkS hts q_460 q_47 q_458 q_459 hyX5_isWithin rfl rfl ⟨(Nat.le_of_ble_eq_true rfl), (Nat.le_of_ble_eq_true rfl)⟩) rfl hl.1 rfl (Nat.le_of_ble_eq_true rfl) dX5_exchange_32 ⟨(Nat.le_of_ble_eq_true rfl), (Nat.le_of_ble_eq_true rfl)⟩ ?_
        refine lv_topi (fun x_7 ex_7 => ?_)
        have hv := bnd_name hv ex_7
        have bx_7 : x_7 = 0 ∨ x_7 = 1 := by rw [ex_7]; exact f_X5_isWithin_b p3 (0 : Int32) (500000 : Int32)
        refine j0_ne (tgt := 46) hx hb dX5_exchange_35 (by decide) (fun c_8 => ?_) (fun c_8 => ?_)
        · have hv := hv.trans (if_pos c_8)
          exact vx_throw0 hx hb hfl (own := RX5) (cls := "java/lang/IllegalArgumentException") (names := exNames) (ik := 47) (ic := 49) hown (by decide +kernel) (by decide +kernel) (hts _ q_461) (hts _ q_57) (ta1 hts hKX.2.2) to1 hKX.1 hKX.2.1 hS (hl.1.trans hml.symm) dX5_exchange_38 dX5_exchange_41 dX5_exchange_42 dX5_exchange_45 (fun x h => (htab x h).elim) (Nat.le_of_ble_eq_true rfl) (Nat.le_of_ble_eq_true rfl) (Nat.le_of_ble_eq_true rfl) (Nat.le_of_ble_eq_true rfl) hlocks (fun t ha hz hk => XP_mk (n := 1) (by decide) (hv.symm.trans eV) hS hP hK ha hz hk) hS.2.2 (Nat.le_of_ble_eq_true rfl) (Nat.le_of_ble_eq_true rfl)
        · have hv := hv.trans (if_neg c_8)
          refine lv_aload_n hx hb dX5_exchange_46 rfl (lv_at hl 1 rfl) ?_
          refine lv_iload_n hx hb dX5_exchange_47 rfl (lv_at hl 3 rfl) ?_
          refine lv_i2l (v := (p1).toInt64) hx hb dX5_exchange_48 rfl ?_
          refine lv_iload_n hx hb dX5_exchange_49 rfl (lv_at hl 4 rfl) ?_
          refine lv_i2l (v := (p2).toInt64) hx hb dX5_exchange_50 rfl ?_
          refine lv_ladd hx hb dX5_exchange_51 ?_
          refine lv_iload hx hb dX5_exchange_52 (lv_at hl 5 rfl) ?_
          refine lv_i2l (v := (p3).toInt64) hx hb dX5_exchange_54 rfl ?_
          refine lv_ladd hx hb dX5_exchange_55 ?_
          refine kVi hx hb hml hown hts hK hP hS hA (As := [.long (((p1).toInt64 + (p2).toInt64) + (p3).toInt64)]) (rest := []) (c_X5_isBeyondLastTrueTime l dC dI cA ad hI M_1  (((p1).toInt64 + (p2).toInt64) + (p3).toInt64) ) (mkV hts q_535 q_47 q_532 q_534 q_12 hyX5_isBeyondLastTrueTime rfl rfl ⟨(Nat.le_of_ble_eq_true rfl), (Nat.le_of_ble_eq_true rfl)⟩) (w_recv hK hP (k := 0) (by decide) lyC0 (q := (RX5, TX5, 10)) rfl) rfl hl.1 rfl (Nat.le_of_ble_eq_true rfl) dX5_exchange_56 ⟨(Nat.le_of_ble_eq_true rfl), (Nat.le_of_ble_eq_true rfl)⟩ (fun r u H locs hw hP hS _ _ => ?_)
          obtain ⟨hw, hu⟩ := hw
          rw [hu] at hP
          have hv := bnd_name hv hw
          obtain ⟨r_9, er_9⟩ : ∃ z, z = r := ⟨_, rfl⟩
          rw [← er_9] at hv hw
          refine w_eqi er_9.symm ?_
          have gr_9 := hw
          have br_9 : r_9 = 0 ∨ r_9 = 1 := by rw [hw]; exact f_X5_isBeyondLastTrueTime_b M_1  (((p1).toInt64 + (p2).toInt64) + (p3).toInt64)
          refine j0_eq (tgt := 70) hx hb dX5_exchange_59 (by decide) (fun c_10 => ?_) (fun c_10 => ?_)
          · have hv := hv.trans (if_pos c_10)
            refine lv_aload_n hx hb dX5_exchange_70 rfl (lv_at hl 1 rfl) ?_
            refine lv_aload hx hb dX5_exchange_71 (lv_at hl 0 rfl) ?_
            refine lv_iload_n hx hb dX5_exchange_73 rfl (lv_at hl 3 rfl) ?_
            refine lv_iload_n hx hb dX5_exchange_74 rfl (lv_at hl 4 rfl) ?_
            refine lv_iload hx hb dX5_exchange_75 (lv_at hl 5 rfl) ?_
            refine kVl hx hb hml hown hts hK hP hS hA (As := [.ref (ad (5 + j_2)), .int p1, .int p2, .int p3]) (rest := []) (c_X5_takeSample l dC dI cA ad hI M_1  (j_2) (by omega) p1 p2 p3 ) (mkV hts q_657 q_47 q_654 q_656 q_15 hyX5_takeSample rfl rfl ⟨(Nat.le_of_ble_eq_true rfl), (Nat.le_of_ble_eq_true rfl)⟩) (w_recv hK hP (k := 0) (by decide) lyC0 (q := (RX5, TX5, 10)) rfl) rfl hl.1 rfl (Nat.le_of_ble_eq_true rfl) dX5_exchange_77 ⟨(Nat.le_of_ble_eq_true rfl), (Nat.le_of_ble_eq_true rfl)⟩ (fun r u H locs hw hP hS _ _ => ?_)
            obtain ⟨M_11, eM_11⟩ : ∃ z, z = u := ⟨_, rfl⟩
            rw [← eM_11] at hP hw
            obtain ⟨r_12, er_12⟩ : ∃ z, z = r := ⟨_, rfl⟩
            rw [← er_12] at hw
            refine w_eql er_12.symm ?_
            have gM_11 := hw
            have hv := bnd2_name hv hw
            exact vx_ret (W.widen (k := 2) (n := 12) (Nat.le_of_ble_eq_true rfl) (Nat.le_of_ble_eq_true rfl) (W.lret (v := r_12) hx hb hr (fun t ht hW => ⟨⟨_, M_11, rfl, hv.symm.trans eV, by rw [ht]; exact hP, va_K.moved hW.alike hK⟩, hS.F ht⟩) hS.2.2 dX5_exchange_80))
          · have hv := hv.trans (if_neg c_10)
            exact vx_throw0 hx hb hfl (own := RX5) (cls := "java/lang/IllegalStateException") (names := exNames) (ik := 54) (ic := 56) hown (by decide +kernel) (by decide +kernel) (hts _ q_537) (hts _ q_58) (ta2 hts hKX.2.2) to2 hKX.1 hKX.2.1 hS (hl.1.trans hml.symm) dX5_exchange_62 dX5_exchange_65 dX5_exchange_66 dX5_exchange_69 (fun x h => (htab x h).elim) (Nat.le_of_ble_eq_true rfl) (Nat.le_of_ble_eq_true rfl) (Nat.le_of_ble_eq_true rfl) (Nat.le_of_ble_eq_true rfl) hlocks (fun t ha hz hk => XP_mk (n := 2) (by decide) (hv.symm.trans eV) hS hP hK ha hz hk) hS.2.2 (Nat.le_of_ble_eq_true rfl) (Nat.le_of_ble_eq_true rfl)
def f_X5_samples (M : Mem) (p0 : Int32) : Nat × Int32 × Mem := thn (f_X5_knownServer M p0) (fun n u => (n, 0, u)) (fun j_2 M_1 => bnd (f_X4_kept M_1 (j_2) ) fun r_3 => (0, r_3, M_1))
theorem hyX5_samples : yX5_samples.cls ≠ "java/lang/invoke/MethodHandle" ∧ yX5_samples.cls ≠ "java/lang/invoke/VarHandle" ∧ (parseMethodDescriptor yX5_samples.desc).map (fun d => d.parameters.length) = some 1 := by decide +kernel
set_option maxHeartbeats 4000000 in
set_option maxRecDepth 100000 in
theorem c_X5_samples (l : Launch) (hfl : l.stackTraces = false) (dC : Nat → ClassId) (dI : Nat → Nat → Nat) (cA : Nat → ClassId) (ad : Nat → Nat) (hI : Inj 69 ad) (M : Mem) (p0 : Int32)  : vx_Met l yX5_samples (.code yX5_samples cX5_samples 2 (some .int) :: AG) ({ frames := 7, cells := 1, slots := 6, locals := 103 } : Room) (va_Pc [.ref (ad (0)), .int p0] (PX dC dI cA ad M)) (va_Qi (fun r u => (0, r, u) = f_X5_samples M p0) (PC dC dI cA ad) (adS 69 ad)) (XP 69 layC dC dI cA ad (fun n u => (n, 0, u) = f_X5_samples M p0)) 1 6 (adS 69 ad) := by
  refine xMet (by decide) (Nat.le_of_ble_eq_true rfl) ?_
  intro p e s m below meth c ls hx hb hr hml hlocks hown hts hK hP hS hl hKX htab
  have hA : ∀ q, adS 69 ad q → adS 69 ad q := fun _ h => h
  have hl : lv_has ls 2 [(0, .ref (ad (0))), (1, .int p0)] := hl
  obtain ⟨V, eV⟩ : ∃ z, z = f_X5_samples M p0 := ⟨_, rfl⟩
  have hv := eV
  unfold f_X5_samples at hv
  refine lv_aload_n hx hb dX5_samples_0 rfl (lv_at hl 0 rfl) ?_
  refine lv_iload_n hx hb dX5_samples_1 rfl (lv_at hl 1 rfl) ?_
  refine kXq hx hb hml hown hts hK hP hS hKX (As := [.int p0]) (rest := []) (c_X5_knownServer l hfl dC dI cA ad hI M p0 ) (mkV hts q_625 q_47 q_622 q_624 q_14 hyX5_knownServer rfl rfl ⟨(Nat.le_of_ble_eq_true rfl), (Nat.le_of_ble_eq_true rfl)⟩) (w_recv hK hP (k := 0) (by decide) lyC0 (q := (RX5, TX5, 10)) rfl) rfl hl.1 rfl (Nat.le_of_ble_eq_true rfl) dX5_samples_2 ⟨(Nat.le_of_ble_eq_true rfl), (Nat.le_of_ble_eq_true rfl)⟩ (fun n u H locs ce q9 hn hw hP hS _ _ hce hcv hcl => ?_) (fun r u H locs hw hP hS _ _ => ?_)
  · have hv := thn_thr hv hw hn
    exact vx_out (fun x h => (htab x h).elim) hlocks hce hcv hcl (fun t ht ha => XP_mk hn (hv.symm.trans eV) hS hP hK ha (by rw [ht]; exact Nat.le_refl _) (fun q _ => by rw [ht])) hS.2.2 (Nat.le_of_ble_eq_true rfl) (Nat.le_of_ble_eq_true rfl)
  · obtain ⟨M_1, eM_1⟩ : ∃ z, z = u := ⟨_, rfl⟩
    rw [← eM_1] at hP hw
    obtain ⟨j_2, hj_2, e9, hw⟩ := hw
    subst e9
    refine w_rf ?_
    have hv := thn_ret hv hw
    refine kVi hx hb hml hown hts hK hP hS hA (As := []) (rest := []) (c_X4_kept l dC dI cA ad hI M_1 (j_2) (by omega)  ) (mkV hts q_311 q_52 q_308 q_309 q_310 hyX4_kept rfl rfl ⟨(Nat.le_of_ble_eq_true rfl), (Nat.le_of_ble_eq_true rfl)⟩) (w_recv hK hP (k := 5 + j_2) (by omega) (lyCs (k := j_2) (by omega)) (q := (RX4, TX4, 9)) rfl) rfl hl.1 rfl (Nat.le_of_ble_eq_true rfl) dX5_samples_5 ⟨(Nat.le_of_ble_eq_true rfl), (Nat.le_of_ble_eq_true rfl)⟩ (fun r u H locs hw hP hS _ _ => ?_)
    obtain ⟨hw, hu⟩ := hw
    rw [hu] at hP
    have hv := bnd_name hv hw
    obtain ⟨r_3, er_3⟩ : ∃ z, z = r := ⟨_, rfl⟩
    rw [← er_3] at hv hw
    refine w_eqi er_3.symm ?_
    have gr_3 := hw
    exact vx_ret (W.widen (k := 1) (n := 6) (Nat.le_of_ble_eq_true rfl) (Nat.le_of_ble_eq_true rfl) (W.iret (v := r_3) hx hb hr (fun t ht hW => ⟨⟨_, M_1, rfl, hv.symm.trans eV, by rw [ht]; exact hP, va_K.moved hW.alike hK⟩, hS.F ht⟩) hS.2.2 dX5_samples_8))
def f_X5_offset (M : Mem) (p0 : Int32) : Nat × Int64 × Mem := thn (f_X5_heardServer M p0) (fun n u => (n, 0, u)) (fun j_2 M_1 => bnd (f_X4_bestOffset M_1 (j_2) ) fun r_3 => (0, r_3, M_1))
theorem hyX5_offset : yX5_offset.cls ≠ "java/lang/invoke/MethodHandle" ∧ yX5_offset.cls ≠ "java/lang/invoke/VarHandle" ∧ (parseMethodDescriptor yX5_offset.desc).map (fun d => d.parameters.length) = some 1 := by decide +kernel
set_option maxHeartbeats 4000000 in
set_option maxRecDepth 100000 in
theorem c_X5_offset (l : Launch) (hfl : l.stackTraces = false) (dC : Nat → ClassId) (dI : Nat → Nat → Nat) (cA : Nat → ClassId) (ad : Nat → Nat) (hI : Inj 69 ad) (M : Mem) (p0 : Int32)  : vx_Met l yX5_offset (.code yX5_offset cX5_offset 2 (some .long) :: AG) ({ frames := 8, cells := 2, slots := 12, locals := 125 } : Room) (va_Pc [.ref (ad (0)), .int p0] (PX dC dI cA ad M)) (va_Ql (fun r u => (0, r, u) = f_X5_offset M p0) (PC dC dI cA ad) (adS 69 ad)) (XP 69 layC dC dI cA ad (fun n u => (n, 0, u) = f_X5_offset M p0)) 2 12 (adS 69 ad) := by
  refine xMet (by decide) (Nat.le_of_ble_eq_true rfl) ?_
  intro p e s m below meth c ls hx hb hr hml hlocks hown hts hK hP hS hl hKX htab
  have hA : ∀ q, adS 69 ad q → adS 69 ad q := fun _ h => h
  have hl : lv_has ls 2 [(0, .ref (ad (0))), (1, .int p0)] := hl
  obtain ⟨V, eV⟩ : ∃ z, z = f_X5_offset M p0 := ⟨_, rfl⟩
  have hv := eV
  unfold f_X5_offset at hv
  refine lv_aload_n hx hb dX5_offset_0 rfl (lv_at hl 0 rfl) ?_
  refine lv_iload_n hx hb dX5_offset_1 rfl (lv_at hl 1 rfl) ?_
  refine kXq hx hb hml hown hts hK hP hS hKX (As := [.int p0]) (rest := []) (c_X5_heardServer l hfl dC dI cA ad hI M p0 ) (mkV hts q_699 q_47 q_696 q_698 q_17 hyX5_heardServer rfl rfl ⟨(Nat.le_of_ble_eq_true rfl), (Nat.le_of_ble_eq_true rfl)⟩) (w_recv hK hP (k := 0) (by decide) lyC0 (q := (RX5, TX5, 10)) rfl) rfl hl.1 rfl (Nat.le_of_ble_eq_true rfl) dX5_offset_2 ⟨(Nat.le_of_ble_eq_true rfl), (Nat.le_of_ble_eq_true rfl)⟩ (fun n u H locs ce q9 hn hw hP hS _ _ hce hcv hcl => ?_) (fun r u H locs hw hP hS _ _ => ?_)
  · have hv := thn_thr hv hw hn
    exact vx_out (fun x h => (htab x h).elim) hlocks hce hcv hcl (fun t ht ha => XP_mk hn (hv.symm.trans eV) hS hP hK ha (by rw [ht]; exact Nat.le_refl _) (fun q _ => by rw [ht])) hS.2.2 (Nat.le_of_ble_eq_true rfl) (Nat.le_of_ble_eq_true rfl)
  · obtain ⟨M_1, eM_1⟩ : ∃ z, z = u := ⟨_, rfl⟩
    rw [← eM_1] at hP hw
    obtain ⟨j_2, hj_2, e9, hw⟩ := hw
    subst e9
    refine w_rf ?_
    have hv := thn_ret hv hw
    refine kVl hx hb hml hown hts hK hP hS hA (As := []) (rest := []) (c_X4_bestOffset l dC dI cA ad hI M_1 (j_2) (by omega)  ) (mkV hts q_319 q_52 q_700 q_317 q_318 hyX4_bestOffset rfl rfl ⟨(Nat.le_of_ble_eq_true rfl), (Nat.le_of_ble_eq_true rfl)⟩) (w_recv hK hP (k := 5 + j_2) (by omega) (lyCs (k := j_2) (by omega)) (q := (RX4, TX4, 9)) rfl) rfl hl.1 rfl (Nat.le_of_ble_eq_true rfl) dX5_offset_5 ⟨(Nat.le_of_ble_eq_true rfl), (Nat.le_of_ble_eq_true rfl)⟩ (fun r u H locs hw hP hS _ _ => ?_)
    obtain ⟨hw, hu⟩ := hw
    rw [hu] at hP
    have hv := bnd_name hv hw
    obtain ⟨r_3, er_3⟩ : ∃ z, z = r := ⟨_, rfl⟩
    rw [← er_3] at hv hw
    refine w_eql er_3.symm ?_
    have gr_3 := hw
    exact vx_ret (W.widen (k := 2) (n := 12) (Nat.le_of_ble_eq_true rfl) (Nat.le_of_ble_eq_true rfl) (W.lret (v := r_3) hx hb hr (fun t ht hW => ⟨⟨_, M_1, rfl, hv.symm.trans eV, by rw [ht]; exact hP, va_K.moved hW.alike hK⟩, hS.F ht⟩) hS.2.2 dX5_offset_8))
def f_X5_delay (M : Mem) (p0 : Int32) : Nat × Int64 × Mem := thn (f_X5_heardServer M p0) (fun n u => (n, 0, u)) (fun j_2 M_1 => bnd (f_X4_bestDelay M_1 (j_2) ) fun r_3 => (0, r_3, M_1))
theorem hyX5_delay : yX5_delay.cls ≠ "java/lang/invoke/MethodHandle" ∧ yX5_delay.cls ≠ "java/lang/invoke/VarHandle" ∧ (parseMethodDescriptor yX5_delay.desc).map (fun d => d.parameters.length) = some 1 := by decide +kernel
set_option maxHeartbeats 4000000 in
set_option maxRecDepth 100000 in
theorem c_X5_delay (l : Launch) (hfl : l.stackTraces = false) (dC : Nat → ClassId) (dI : Nat → Nat → Nat) (cA : Nat → ClassId) (ad : Nat → Nat) (hI : Inj 69 ad) (M : Mem) (p0 : Int32)  : vx_Met l yX5_delay (.code yX5_delay cX5_delay 2 (some .long) :: AG) ({ frames := 8, cells := 2, slots := 12, locals := 125 } : Room) (va_Pc [.ref (ad (0)), .int p0] (PX dC dI cA ad M)) (va_Ql (fun r u => (0, r, u) = f_X5_delay M p0) (PC dC dI cA ad) (adS 69 ad)) (XP 69 layC dC dI cA ad (fun n u => (n, 0, u) = f_X5_delay M p0)) 2 12 (adS 69 ad) := by
  refine xMet (by decide) (Nat.le_of_ble_eq_true rfl) ?_
  intro p e s m below meth c ls hx hb hr hml hlocks hown hts hK hP hS hl hKX htab
  have hA : ∀ q, adS 69 ad q → adS 69 ad q := fun _ h => h
  have hl : lv_has ls 2 [(0, .ref (ad (0))), (1, .int p0)] := hl
  obtain ⟨V, eV⟩ : ∃ z, z = f_X5_delay M p0 := ⟨_, rfl⟩
  have hv := eV
  unfold f_X5_delay at hv
  refine lv_aload_n hx hb dX5_delay_0 rfl (lv_at hl 0 rfl) ?_
  refine lv_iload_n hx hb dX5_delay_1 rfl (lv_at hl 1 rfl) ?_
  refine kXq hx hb hml hown hts hK hP hS hKX (As := [.int p0]) (rest := []) (c_X5_heardServer l hfl dC dI cA ad hI M p0 ) (mkV hts q_699 q_47 q_696 q_698 q_17 hyX5_heardServer rfl rfl ⟨(Nat.le_of_ble_eq_true rfl), (Nat.le_of_ble_eq_true rfl)⟩) (w_recv hK hP (k := 0) (by decide) lyC0 (q := (RX5, TX5, 10)) rfl) rfl hl.1 rfl (Nat.le_of_ble_eq_true rfl) dX5_delay_2 ⟨(Nat.le_of_ble_eq_true rfl), (Nat.le_of_ble_eq_true rfl)⟩ (fun n u H locs ce q9 hn hw hP hS _ _ hce hcv hcl => ?_) (fun r u H locs hw hP hS _ _ => ?_)
  · have hv := thn_thr hv hw hn
    exact vx_out (fun x h => (htab x h).elim) hlocks hce hcv hcl (fun t ht ha => XP_mk hn (hv.symm.trans eV) hS hP hK ha (by rw [ht]; exact Nat.le_refl _) (fun q _ => by rw [ht])) hS.2.2 (Nat.le_of_ble_eq_true rfl) (Nat.le_of_ble_eq_true rfl)
  · obtain ⟨M_1, eM_1⟩ : ∃ z, z = u := ⟨_, rfl⟩
    rw [← eM_1] at hP hw
    obtain ⟨j_2, hj_2, e9, hw⟩ := hw
    subst e9
    refine w_rf ?_
    have hv := thn_ret hv hw
    refine kVl hx hb hml hown hts hK hP hS hA (As := []) (rest := []) (c_X4_bestDelay l dC dI cA ad hI M_1 (j_2) (by omega)  ) (mkV hts q_336 q_52 q_708 q_334 q_335 hyX4_bestDelay rfl rfl ⟨(Nat.le_of_ble_eq_true rfl), (Nat.le_of_ble_eq_true rfl)⟩) (w_recv hK hP (k := 5 + j_2) (by omega) (lyCs (k := j_2) (by omega)) (q := (RX4, TX4, 9)) rfl) rfl hl.1 rfl (Nat.le_of_ble_eq_true rfl) dX5_delay_5 ⟨(Nat.le_of_ble_eq_true rfl), (Nat.le_of_ble_eq_true rfl)⟩ (fun r u H locs hw hP hS _ _ => ?_)
    obtain ⟨hw, hu⟩ := hw
    rw [hu] at hP
    have hv := bnd_name hv hw
    obtain ⟨r_3, er_3⟩ : ∃ z, z = r := ⟨_, rfl⟩
    rw [← er_3] at hv hw
    refine w_eql er_3.symm ?_
    have gr_3 := hw
    exact vx_ret (W.widen (k := 2) (n := 12) (Nat.le_of_ble_eq_true rfl) (Nat.le_of_ble_eq_true rfl) (W.lret (v := r_3) hx hb hr (fun t ht hW => ⟨⟨_, M_1, rfl, hv.symm.trans eV, by rw [ht]; exact hP, va_K.moved hW.alike hK⟩, hS.F ht⟩) hS.2.2 dX5_delay_8))
def f_X5_jitter (M : Mem) (p0 : Int32) : Nat × Int64 × Mem := thn (f_X5_heardServer M p0) (fun n u => (n, 0, u)) (fun j_2 M_1 => bnd (f_X4_offsetJitter M_1 (j_2) ) fun r_3 => (0, r_3, M_1))
theorem hyX5_jitter : yX5_jitter.cls ≠ "java/lang/invoke/MethodHandle" ∧ yX5_jitter.cls ≠ "java/lang/invoke/VarHandle" ∧ (parseMethodDescriptor yX5_jitter.desc).map (fun d => d.parameters.length) = some 1 := by decide +kernel
set_option maxHeartbeats 4000000 in
set_option maxRecDepth 100000 in
theorem c_X5_jitter (l : Launch) (hfl : l.stackTraces = false) (dC : Nat → ClassId) (dI : Nat → Nat → Nat) (cA : Nat → ClassId) (ad : Nat → Nat) (hI : Inj 69 ad) (M : Mem) (p0 : Int32)  : vx_Met l yX5_jitter (.code yX5_jitter cX5_jitter 2 (some .long) :: AG) ({ frames := 8, cells := 2, slots := 12, locals := 125 } : Room) (va_Pc [.ref (ad (0)), .int p0] (PX dC dI cA ad M)) (va_Ql (fun r u => (0, r, u) = f_X5_jitter M p0) (PC dC dI cA ad) (adS 69 ad)) (XP 69 layC dC dI cA ad (fun n u => (n, 0, u) = f_X5_jitter M p0)) 2 12 (adS 69 ad) := by
  refine xMet (by decide) (Nat.le_of_ble_eq_true rfl) ?_
  intro p e s m below meth c ls hx hb hr hml hlocks hown hts hK hP hS hl hKX htab
  have hA : ∀ q, adS 69 ad q → adS 69 ad q := fun _ h => h
  have hl : lv_has ls 2 [(0, .ref (ad (0))), (1, .int p0)] := hl
  obtain ⟨V, eV⟩ : ∃ z, z = f_X5_jitter M p0 := ⟨_, rfl⟩
  have hv := eV
  unfold f_X5_jitter at hv
  refine lv_aload_n hx hb dX5_jitter_0 rfl (lv_at hl 0 rfl) ?_
  refine lv_iload_n hx hb dX5_jitter_1 rfl (lv_at hl 1 rfl) ?_
  refine kXq hx hb hml hown hts hK hP hS hKX (As := [.int p0]) (rest := []) (c_X5_heardServer l hfl dC dI cA ad hI M p0 ) (mkV hts q_699 q_47 q_696 q_698 q_17 hyX5_heardServer rfl rfl ⟨(Nat.le_of_ble_eq_true rfl), (Nat.le_of_ble_eq_true rfl)⟩) (w_recv hK hP (k := 0) (by decide) lyC0 (q := (RX5, TX5, 10)) rfl) rfl hl.1 rfl (Nat.le_of_ble_eq_true rfl) dX5_jitter_2 ⟨(Nat.le_of_ble_eq_true rfl), (Nat.le_of_ble_eq_true rfl)⟩ (fun n u H locs ce q9 hn hw hP hS _ _ hce hcv hcl => ?_) (fun r u H locs hw hP hS _ _ => ?_)
  · have hv := thn_thr hv hw hn
    exact vx_out (fun x h => (htab x h).elim) hlocks hce hcv hcl (fun t ht ha => XP_mk hn (hv.symm.trans eV) hS hP hK ha (by rw [ht]; exact Nat.le_refl _) (fun q _ => by rw [ht])) hS.2.2 (Nat.le_of_ble_eq_true rfl) (Nat.le_of_ble_eq_true rfl)
  · obtain ⟨M_1, eM_1⟩ : ∃ z, z = u := ⟨_, rfl⟩
    rw [← eM_1] at hP hw
    obtain ⟨j_2, hj_2, e9, hw⟩ := hw
    subst e9
    refine w_rf ?_
    have hv := thn_ret hv hw
    refine kVl hx hb hml hown hts hK hP hS hA (As := []) (rest := []) (c_X4_offsetJitter l dC dI cA ad hI M_1 (j_2) (by omega)  ) (mkV hts q_340 q_52 q_716 q_338 q_339 hyX4_offsetJitter rfl rfl ⟨(Nat.le_of_ble_eq_true rfl), (Nat.le_of_ble_eq_true rfl)⟩) (w_recv hK hP (k := 5 + j_2) (by omega) (lyCs (k := j_2) (by omega)) (q := (RX4, TX4, 9)) rfl) rfl hl.1 rfl (Nat.le_of_ble_eq_true rfl) dX5_jitter_5 ⟨(Nat.le_of_ble_eq_true rfl), (Nat.le_of_ble_eq_true rfl)⟩ (fun r u H locs hw hP hS _ _ => ?_)
    obtain ⟨hw, hu⟩ := hw
    rw [hu] at hP
    have hv := bnd_name hv hw
    obtain ⟨r_3, er_3⟩ : ∃ z, z = r := ⟨_, rfl⟩
    rw [← er_3] at hv hw
    refine w_eql er_3.symm ?_
    have gr_3 := hw
    exact vx_ret (W.widen (k := 2) (n := 12) (Nat.le_of_ble_eq_true rfl) (Nat.le_of_ble_eq_true rfl) (W.lret (v := r_3) hx hb hr (fun t ht hW => ⟨⟨_, M_1, rfl, hv.symm.trans eV, by rw [ht]; exact hP, va_K.moved hW.alike hK⟩, hS.F ht⟩) hS.2.2 dX5_jitter_8))
def f_X5_distance (M : Mem) (p0 : Int32) : Nat × Int64 × Mem := thn (f_X5_heardServer M p0) (fun n u => (n, 0, u)) (fun j_2 M_1 => bnd (f_X1_reading M_1  ) fun r_3 => bnd (f_X4_distanceAt M_1 (j_2) r_3) fun r_4 => (0, r_4, M_1))
theorem hyX5_distance : yX5_distance.cls ≠ "java/lang/invoke/MethodHandle" ∧ yX5_distance.cls ≠ "java/lang/invoke/VarHandle" ∧ (parseMethodDescriptor yX5_distance.desc).map (fun d => d.parameters.length) = some 1 := by decide +kernel
set_option maxHeartbeats 4000000 in
set_option maxRecDepth 100000 in
theorem c_X5_distance (l : Launch) (hfl : l.stackTraces = false) (dC : Nat → ClassId) (dI : Nat → Nat → Nat) (cA : Nat → ClassId) (ad : Nat → Nat) (hI : Inj 69 ad) (M : Mem) (p0 : Int32)  : vx_Met l yX5_distance (.code yX5_distance cX5_distance 2 (some .long) :: AG) ({ frames := 8, cells := 2, slots := 12, locals := 125 } : Room) (va_Pc [.ref (ad (0)), .int p0] (PX dC dI cA ad M)) (va_Ql (fun r u => (0, r, u) = f_X5_distance M p0) (PC dC dI cA ad) (adS 69 ad)) (XP 69 layC dC dI cA ad (fun n u => (n, 0, u) = f_X5_distance M p0)) 2 12 (adS 69 ad) := by
  refine xMet (by decide) (Nat.le_of_ble_eq_true rfl) ?_
  intro p e s m below meth c ls hx hb hr hml hlocks hown hts hK hP hS hl hKX htab
  have hA : ∀ q, adS 69 ad q → adS 69 ad q := fun _ h => h
  have hl : lv_has ls 2 [(0, .ref (ad (0))), (1, .int p0)] := hl
  obtain ⟨V, eV⟩ : ∃ z, z = f_X5_distance M p0 := ⟨_, rfl⟩
  have hv := eV
  unfold f_X5_distance at hv
  refine lv_aload_n hx hb dX5_distance_0 rfl (lv_at hl 0 rfl) ?_
  refine lv_iload_n hx hb dX5_distance_1 rfl (lv_at hl 1 rfl) ?_
  refine kXq hx hb hml hown hts hK hP hS hKX (As := [.int p0]) (rest := []) (c_X5_heardServer l hfl dC dI cA ad hI M p0 ) (mkV hts q_699 q_47 q_696 q_698 q_17 hyX5_heardServer rfl rfl ⟨(Nat.le_of_ble_eq_true rfl), (Nat.le_of_ble_eq_true rfl)⟩) (w_recv hK hP (k := 0) (by decide) lyC0 (q := (RX5, TX5, 10)) rfl) rfl hl.1 rfl (Nat.le_of_ble_eq_true rfl) dX5_distance_2 ⟨(Nat.le_of_ble_eq_true rfl), (Nat.le_of_ble_eq_true rfl)⟩ (fun n u H locs ce q9 hn hw hP hS _ _ hce hcv hcl => ?_) (fun r u H locs hw hP hS _ _ => ?_)
  · have hv := thn_thr hv hw hn
    exact vx_out (fun x h => (htab x h).elim) hlocks hce hcv hcl (fun t ht ha => XP_mk hn (hv.symm.trans eV) hS hP hK ha (by rw [ht]; exact Nat.le_refl _) (fun q _ => by rw [ht])) hS.2.2 (Nat.le_of_ble_eq_true rfl) (Nat.le_of_ble_eq_true rfl)
  · obtain ⟨M_1, eM_1⟩ : ∃ z, z = u := ⟨_, rfl⟩
    rw [← eM_1] at hP hw
    obtain ⟨j_2, hj_2, e9, hw⟩ := hw
    subst e9
    refine w_rf ?_
    have hv := thn_ret hv hw
    refine lv_aload_n hx hb dX5_distance_5 rfl (lv_at hl 0 rfl) ?_
    refine fg_X5_10 hx hb hts hK hP hown dX5_distance_6 ?_
    refine kVl hx hb hml hown hts hK hP hS hA (As := []) (rest := [.ref (ad (5 + j_2))]) (c_X1_reading l dC dI cA ad hI M_1   ) (mkV hts q_239 q_48 q_236 q_237 q_238 hyX1_reading rfl rfl ⟨(Nat.le_of_ble_eq_true rfl), (Nat.le_of_ble_eq_true rfl)⟩) (w_recv hK hP (k := 1) (by decide) lyC1 (q := (RX1, TX1, 4)) rfl) rfl hl.1 rfl (Nat.le_of_ble_eq_true rfl) dX5_distance_9 ⟨(Nat.le_of_ble_eq_true rfl), (Nat.le_of_ble_eq_true rfl)⟩ (fun r u H locs hw hP hS _ _ => ?_)
    obtain ⟨hw, hu⟩ := hw
    rw [hu] at hP
    have hv := bnd_name hv hw
    obtain ⟨r_3, er_3⟩ : ∃ z, z = r := ⟨_, rfl⟩
    rw [← er_3] at hv hw
    refine w_eql er_3.symm ?_
    have gr_3 := hw
    refine kVl hx hb hml hown hts hK hP hS hA (As := [.long r_3]) (rest := []) (c_X4_distanceAt l dC dI cA ad hI M_1 (j_2) (by omega) r_3 ) (mkV hts q_331 q_52 q_724 q_329 q_330 hyX4_distanceAt rfl rfl ⟨(Nat.le_of_ble_eq_true rfl), (Nat.le_of_ble_eq_true rfl)⟩) (w_recv hK hP (k := 5 + j_2) (by omega) (lyCs (k := j_2) (by omega)) (q := (RX4, TX4, 9)) rfl) rfl hl.1 rfl (Nat.le_of_ble_eq_true rfl) dX5_distance_12 ⟨(Nat.le_of_ble_eq_true rfl), (Nat.le_of_ble_eq_true rfl)⟩ (fun r u H locs hw hP hS _ _ => ?_)
    obtain ⟨hw, hu⟩ := hw
    rw [hu] at hP
    have hv := bnd_name hv hw
    obtain ⟨r_4, er_4⟩ : ∃ z, z = r := ⟨_, rfl⟩
    rw [← er_4] at hv hw
    refine w_eql er_4.symm ?_
    have gr_4 := hw
    exact vx_ret (W.widen (k := 2) (n := 12) (Nat.le_of_ble_eq_true rfl) (Nat.le_of_ble_eq_true rfl) (W.lret (v := r_4) hx hb hr (fun t ht hW => ⟨⟨_, M_1, rfl, hv.symm.trans eV, by rw [ht]; exact hP, va_K.moved hW.alike hK⟩, hS.F ht⟩) hS.2.2 dX5_distance_15))
def f_X5_selectFromSome (M : Mem)  : Nat × Mem := bnd (f_X5_select M  ) fun M_1 => bnd (f_X3_isEmpty M_1  ) fun r_2 => if r_2 = (0 : Int32) then (0, M_1) else (2, M_1)
theorem hyX5_selectFromSome : yX5_selectFromSome.cls ≠ "java/lang/invoke/MethodHandle" ∧ yX5_selectFromSome.cls ≠ "java/lang/invoke/VarHandle" ∧ (parseMethodDescriptor yX5_selectFromSome.desc).map (fun d => d.parameters.length) = some 0 := by decide +kernel
set_option maxHeartbeats 4000000 in
set_option maxRecDepth 100000 in
theorem c_X5_selectFromSome (l : Launch) (hfl : l.stackTraces = false) (dC : Nat → ClassId) (dI : Nat → Nat → Nat) (cA : Nat → ClassId) (ad : Nat → Nat) (hI : Inj 69 ad) (M : Mem)   : vx_Met l yX5_selectFromSome (.code yX5_selectFromSome cX5_selectFromSome 1 none :: AG) ({ frames := 6, cells := 1, slots := 6, locals := 120 } : Room) (va_Pc [.ref (ad (0))] (PX dC dI cA ad M)) (va_Qv (fun u => (0, u) = f_X5_selectFromSome M ) (PC dC dI cA ad) (adS 69 ad)) (XP 69 layC dC dI cA ad (fun n u => (n, u) = f_X5_selectFromSome M )) 1 6 (adS 69 ad) := by
  refine xMet (by decide) (Nat.le_of_ble_eq_true rfl) ?_
  intro p e s m below meth c ls hx hb hr hml hlocks hown hts hK hP hS hl hKX htab
  have hA : ∀ q, adS 69 ad q → adS 69 ad q := fun _ h => h
  have hl : lv_has ls 1 [(0, .ref (ad (0)))] := hl
  obtain ⟨V, eV⟩ : ∃ z, z = f_X5_selectFromSome M  := ⟨_, rfl⟩
  have hv := eV
  unfold f_X5_selectFromSome at hv
  refine lv_aload_n hx hb dX5_selectFromSome_0 rfl (lv_at hl 0 rfl) ?_
  refine kVv hx hb hml hown hts hK hP hS hA (As := []) (rest := []) (c_X5_select l dC dI cA ad hI M   ) (mkV hts q_295 q_47 q_292 q_294 q_1 hyX5_select rfl rfl ⟨(Nat.le_of_ble_eq_true rfl), (Nat.le_of_ble_eq_true rfl)⟩) (w_recv hK hP (k := 0) (by decide) lyC0 (q := (RX5, TX5, 10)) rfl) rfl hl.1 rfl (Nat.le_of_ble_eq_true rfl) dX5_selectFromSome_1 ⟨(Nat.le_of_ble_eq_true rfl), (Nat.le_of_ble_eq_true rfl)⟩ (fun u H locs hw hP hS _ _ => ?_)
  obtain ⟨M_1, eM_1⟩ : ∃ z, z = u := ⟨_, rfl⟩
  rw [← eM_1] at hP hw
  have gM_1 := hw
  have hv := bnd_name hv hw
  refine lv_aload_n hx hb dX5_selectFromSome_4 rfl (lv_at hl 0 rfl) ?_
  refine fg_X5_32 hx hb hts hK hP hown dX5_selectFromSome_5 ?_
  refine kVi hx hb hml hown hts hK hP hS hA (As := []) (rest := []) (c_X3_isEmpty l dC dI cA ad hI M_1   ) (mkV hts q_739 q_50 q_736 q_737 q_738 hyX3_isEmpty rfl rfl ⟨(Nat.le_of_ble_eq_true rfl), (Nat.le_of_ble_eq_true rfl)⟩) (w_recv hK hP (k := 4) (by decide) lyC4 (q := (RX3, TX3, 9)) rfl) rfl hl.1 rfl (Nat.le_of_ble_eq_true rfl) dX5_selectFromSome_8 ⟨(Nat.le_of_ble_eq_true rfl), (Nat.le_of_ble_eq_true rfl)⟩ (fun r u H locs hw hP hS _ _ => ?_)
  obtain ⟨hw, hu⟩ := hw
  rw [hu] at hP
  have hv := bnd_name hv hw
  obtain ⟨r_2, er_2⟩ : ∃ z, z = r := ⟨_, rfl⟩
  rw [← er_2] at hv hw
  refine w_eqi er_2.symm ?_
  have gr_2 := hw
  have br_2 : r_2 = 0 ∨ r_2 = 1 := by rw [hw]; exact f_X3_isEmpty_b M_1  
  refine j0_eq (tgt := 22) hx hb dX5_selectFromSome_11 (by decide) (fun c_3 => ?_) (fun c_3 => ?_)
  · have hv := hv.trans (if_pos c_3)
    exact vx_ret (W.widen (k := 1) (n := 6) (Nat.le_of_ble_eq_true rfl) (Nat.le_of_ble_eq_true rfl) (W.vret hx hb hr (fun t ht hW => ⟨⟨M_1, rfl, hv.symm.trans eV, by rw [ht]; exact hP, va_K.moved hW.alike hK⟩, hS.F ht⟩) hS.2.2 dX5_selectFromSome_22))
  · have hv := hv.trans (if_neg c_3)
    exact vx_throw0 hx hb hfl (own := RX5) (cls := "java/lang/IllegalStateException") (names := exNames) (ik := 54) (ic := 56) hown (by decide +kernel) (by decide +kernel) (hts _ q_537) (hts _ q_58) (ta2 hts hKX.2.2) to2 hKX.1 hKX.2.1 hS (hl.1.trans hml.symm) dX5_selectFromSome_14 dX5_selectFromSome_17 dX5_selectFromSome_18 dX5_selectFromSome_21 (fun x h => (htab x h).elim) (Nat.le_of_ble_eq_true rfl) (Nat.le_of_ble_eq_true rfl) (Nat.le_of_ble_eq_true rfl) (Nat.le_of_ble_eq_true rfl) hlocks (fun t ha hz hk => XP_mk (n := 2) (by decide) (hv.symm.trans eV) hS hP hK ha hz hk) hS.2.2 (Nat.le_of_ble_eq_true rfl) (Nat.le_of_ble_eq_true rfl)
def f_X5_low (M : Mem)  : Nat × Int64 × Mem := thv (f_X5_selectFromSome M ) (fun n u => (n, 0, u)) (fun M_1 => bnd (f_X3_lowEnd M_1  ) fun r_2 => (0, r_2, M_1))
theorem hyX5_low : yX5_low.cls ≠ "java/lang/invoke/MethodHandle" ∧ yX5_low.cls ≠ "java/lang/invoke/VarHandle" ∧ (parseMethodDescriptor yX5_low.desc).map (fun d => d.parameters.length) = some 0 := by decide +kernel
set_option maxHeartbeats 4000000 in
set_option maxRecDepth 100000 in
theorem c_X5_low (l : Launch) (hfl : l.stackTraces = false) (dC : Nat → ClassId) (dI : Nat → Nat → Nat) (cA : Nat → ClassId) (ad : Nat → Nat) (hI : Inj 69 ad) (M : Mem)   : vx_Met l yX5_low (.code yX5_low cX5_low 1 (some .long) :: AG) ({ frames := 7, cells := 1, slots := 6, locals := 140 } : Room) (va_Pc [.ref (ad (0))] (PX dC dI cA ad M)) (va_Ql (fun r u => (0, r, u) = f_X5_low M ) (PC dC dI cA ad) (adS 69 ad)) (XP 69 layC dC dI cA ad (fun n u => (n, 0, u) = f_X5_low M )) 1 6 (adS 69 ad) := by
  refine xMet (by decide) (Nat.le_of_ble_eq_true rfl) ?_
  intro p e s m below meth c ls hx hb hr hml hlocks hown hts hK hP hS hl hKX htab
  have hA : ∀ q, adS 69 ad q → adS 69 ad q := fun _ h => h
  have hl : lv_has ls 1 [(0, .ref (ad (0)))] := hl
  obtain ⟨V, eV⟩ : ∃ z, z = f_X5_low M  := ⟨_, rfl⟩
  have hv := eV
  unfold f_X5_low at hv
  refine lv_aload_n hx hb dX5_low_0 rfl (lv_at hl 0 rfl) ?_
  refine kXv hx hb hml hown hts hK hP hS hKX (As := []) (rest := []) (c_X5_selectFromSome l hfl dC dI cA ad hI M  ) (mkV hts q_735 q_47 q_732 q_734 q_18 hyX5_selectFromSome rfl rfl ⟨(Nat.le_of_ble_eq_true rfl), (Nat.le_of_ble_eq_true rfl)⟩) (w_recv hK hP (k := 0) (by decide) lyC0 (q := (RX5, TX5, 10)) rfl) rfl hl.1 rfl (Nat.le_of_ble_eq_true rfl) dX5_low_1 ⟨(Nat.le_of_ble_eq_true rfl), (Nat.le_of_ble_eq_true rfl)⟩ (fun n u H locs ce q9 hn hw hP hS _ _ hce hcv hcl => ?_) (fun u H locs hw hP hS _ _ => ?_)
  · have hv := thv_thr hv hw hn
    exact vx_out (fun x h => (htab x h).elim) hlocks hce hcv hcl (fun t ht ha => XP_mk hn (hv.symm.trans eV) hS hP hK ha (by rw [ht]; exact Nat.le_refl _) (fun q _ => by rw [ht])) hS.2.2 (Nat.le_of_ble_eq_true rfl) (Nat.le_of_ble_eq_true rfl)
  · obtain ⟨M_1, eM_1⟩ : ∃ z, z = u := ⟨_, rfl⟩
    rw [← eM_1] at hP hw
    have hv := thv_ret hv hw
    refine lv_aload_n hx hb dX5_low_4 rfl (lv_at hl 0 rfl) ?_
    refine fg_X5_32 hx hb hts hK hP hown dX5_low_5 ?_
    refine kVl hx hb hml hown hts hK hP hS hA (As := []) (rest := []) (c_X3_lowEnd l dC dI cA ad hI M_1   ) (mkV hts q_743 q_50 q_740 q_741 q_742 hyX3_lowEnd rfl rfl ⟨(Nat.le_of_ble_eq_true rfl), (Nat.le_of_ble_eq_true rfl)⟩) (w_recv hK hP (k := 4) (by decide) lyC4 (q := (RX3, TX3, 9)) rfl) rfl hl.1 rfl (Nat.le_of_ble_eq_true rfl) dX5_low_8 ⟨(Nat.le_of_ble_eq_true rfl), (Nat.le_of_ble_eq_true rfl)⟩ (fun r u H locs hw hP hS _ _ => ?_)
    obtain ⟨hw, hu⟩ := hw
    rw [hu] at hP
    have hv := bnd_name hv hw
    obtain ⟨r_2, er_2⟩ : ∃ z, z = r := ⟨_, rfl⟩
    rw [← er_2] at hv hw
    refine w_eql er_2.symm ?_
    have gr_2 := hw
    exact vx_ret (W.widen (k := 1) (n := 6) (Nat.le_of_ble_eq_true rfl) (Nat.le_of_ble_eq_true rfl) (W.lret (v := r_2) hx hb hr (fun t ht hW => ⟨⟨_, M_1, rfl, hv.symm.trans eV, by rw [ht]; exact hP, va_K.moved hW.alike hK⟩, hS.F ht⟩) hS.2.2 dX5_low_11))
def f_X5_high (M : Mem)  : Nat × Int64 × Mem := thv (f_X5_selectFromSome M ) (fun n u => (n, 0, u)) (fun M_1 => bnd (f_X3_highEnd M_1  ) fun r_2 => (0, r_2, M_1))
theorem hyX5_high : yX5_high.cls ≠ "java/lang/invoke/MethodHandle" ∧ yX5_high.cls ≠ "java/lang/invoke/VarHandle" ∧ (parseMethodDescriptor yX5_high.desc).map (fun d => d.parameters.length) = some 0 := by decide +kernel
set_option maxHeartbeats 4000000 in
set_option maxRecDepth 100000 in
theorem c_X5_high (l : Launch) (hfl : l.stackTraces = false) (dC : Nat → ClassId) (dI : Nat → Nat → Nat) (cA : Nat → ClassId) (ad : Nat → Nat) (hI : Inj 69 ad) (M : Mem)   : vx_Met l yX5_high (.code yX5_high cX5_high 1 (some .long) :: AG) ({ frames := 7, cells := 1, slots := 6, locals := 140 } : Room) (va_Pc [.ref (ad (0))] (PX dC dI cA ad M)) (va_Ql (fun r u => (0, r, u) = f_X5_high M ) (PC dC dI cA ad) (adS 69 ad)) (XP 69 layC dC dI cA ad (fun n u => (n, 0, u) = f_X5_high M )) 1 6 (adS 69 ad) := by
  refine xMet (by decide) (Nat.le_of_ble_eq_true rfl) ?_
  intro p e s m below meth c ls hx hb hr hml hlocks hown hts hK hP hS hl hKX htab
  have hA : ∀ q, adS 69 ad q → adS 69 ad q := fun _ h => h
  have hl : lv_has ls 1 [(0, .ref (ad (0)))] := hl
  obtain ⟨V, eV⟩ : ∃ z, z = f_X5_high M  := ⟨_, rfl⟩
  have hv := eV
  unfold f_X5_high at hv
  refine lv_aload_n hx hb dX5_high_0 rfl (lv_at hl 0 rfl) ?_
  refine kXv hx hb hml hown hts hK hP hS hKX (As := []) (rest := []) (c_X5_selectFromSome l hfl dC dI cA ad hI M  ) (mkV hts q_735 q_47 q_732 q_734 q_18 hyX5_selectFromSome rfl rfl ⟨(Nat.le_of_ble_eq_true rfl), (Nat.le_of_ble_eq_true rfl)⟩) (w_recv hK hP (k := 0) (by decide) lyC0 (q := (RX5, TX5, 10)) rfl) rfl hl.1 rfl (Nat.le_of_ble_eq_true rfl) dX5_high_1 ⟨(Nat.le_of_ble_eq_true rfl), (Nat.le_of_ble_eq_true rfl)⟩ (fun n u H locs ce q9 hn hw hP hS _ _ hce hcv hcl => ?_) (fun u H locs hw hP hS _ _ => ?_)
  · have hv := thv_thr hv hw hn
    exact vx_out (fun x h => (htab x h).elim) hlocks hce hcv hcl (fun t ht ha => XP_mk hn (hv.symm.trans eV) hS hP hK ha (by rw [ht]; exact Nat.le_refl _) (fun q _ => by rw [ht])) hS.2.2 (Nat.le_of_ble_eq_true rfl) (Nat.le_of_ble_eq_true rfl)
  · obtain ⟨M_1, eM_1⟩ : ∃ z, z = u := ⟨_, rfl⟩
    rw [← eM_1] at hP hw
    have hv := thv_ret hv hw
    refine lv_aload_n hx hb dX5_high_4 rfl (lv_at hl 0 rfl) ?_
    refine fg_X5_32 hx hb hts hK hP hown dX5_high_5 ?_
    refine kVl hx hb hml hown hts hK hP hS hA (As := []) (rest := []) (c_X3_highEnd l dC dI cA ad hI M_1   ) (mkV hts q_754 q_50 q_751 q_752 q_753 hyX3_highEnd rfl rfl ⟨(Nat.le_of_ble_eq_true rfl), (Nat.le_of_ble_eq_true rfl)⟩) (w_recv hK hP (k := 4) (by decide) lyC4 (q := (RX3, TX3, 9)) rfl) rfl hl.1 rfl (Nat.le_of_ble_eq_true rfl) dX5_high_8 ⟨(Nat.le_of_ble_eq_true rfl), (Nat.le_of_ble_eq_true rfl)⟩ (fun r u H locs hw hP hS _ _ => ?_)
    obtain ⟨hw, hu⟩ := hw
    rw [hu] at hP
    have hv := bnd_name hv hw
    obtain ⟨r_2, er_2⟩ : ∃ z, z = r := ⟨_, rfl⟩
    rw [← er_2] at hv hw
    refine w_eql er_2.symm ?_
    have gr_2 := hw
    exact vx_ret (W.widen (k := 1) (n := 6) (Nat.le_of_ble_eq_true rfl) (Nat.le_of_ble_eq_true rfl) (W.lret (v := r_2) hx hb hr (fun t ht hW => ⟨⟨_, M_1, rfl, hv.symm.trans eV, by rw [ht]; exact hP, va_K.moved hW.alike hK⟩, hS.F ht⟩) hS.2.2 dX5_high_11))
def f_X5_combinedOffset (M : Mem)  : Nat × Int64 × Mem := thv (f_X5_selectFromSome M ) (fun n u => (n, 0, u)) (fun M_1 => bnd (f_X3_weightedOffset M_1  ) fun r_2 => (0, r_2, M_1))
theorem hyX5_combinedOffset : yX5_combinedOffset.cls ≠ "java/lang/invoke/MethodHandle" ∧ yX5_combinedOffset.cls ≠ "java/lang/invoke/VarHandle" ∧ (parseMethodDescriptor yX5_combinedOffset.desc).map (fun d => d.parameters.length) = some 0 := by decide +kernel
set_option maxHeartbeats 4000000 in
set_option maxRecDepth 100000 in
theorem c_X5_combinedOffset (l : Launch) (hfl : l.stackTraces = false) (dC : Nat → ClassId) (dI : Nat → Nat → Nat) (cA : Nat → ClassId) (ad : Nat → Nat) (hI : Inj 69 ad) (M : Mem)   : vx_Met l yX5_combinedOffset (.code yX5_combinedOffset cX5_combinedOffset 1 (some .long) :: AG) ({ frames := 7, cells := 1, slots := 6, locals := 140 } : Room) (va_Pc [.ref (ad (0))] (PX dC dI cA ad M)) (va_Ql (fun r u => (0, r, u) = f_X5_combinedOffset M ) (PC dC dI cA ad) (adS 69 ad)) (XP 69 layC dC dI cA ad (fun n u => (n, 0, u) = f_X5_combinedOffset M )) 1 6 (adS 69 ad) := by
  refine xMet (by decide) (Nat.le_of_ble_eq_true rfl) ?_
  intro p e s m below meth c ls hx hb hr hml hlocks hown hts hK hP hS hl hKX htab
  have hA : ∀ q, adS 69 ad q → adS 69 ad q := fun _ h => h
  have hl : lv_has ls 1 [(0, .ref (ad (0)))] := hl
  obtain ⟨V, eV⟩ : ∃ z, z = f_X5_combinedOffset M  := ⟨_, rfl⟩
  have hv := eV
  unfold f_X5_combinedOffset at hv
  refine lv_aload_n hx hb dX5_combinedOffset_0 rfl (lv_at hl 0 rfl) ?_
  refine kXv hx hb hml hown hts hK hP hS hKX (As := []) (rest := []) (c_X5_selectFromSome l hfl dC dI cA ad hI M  ) (mkV hts q_735 q_47 q_732 q_734 q_18 hyX5_selectFromSome rfl rfl ⟨(Nat.le_of_ble_eq_true rfl), (Nat.le_of_ble_eq_true rfl)⟩) (w_recv hK hP (k := 0) (by decide) lyC0 (q := (RX5, TX5, 10)) rfl) rfl hl.1 rfl (Nat.le_of_ble_eq_true rfl) dX5_combinedOffset_1 ⟨(Nat.le_of_ble_eq_true rfl), (Nat.le_of_ble_eq_true rfl)⟩ (fun n u H locs ce q9 hn hw hP hS _ _ hce hcv hcl => ?_) (fun u H locs hw hP hS _ _ => ?_)
  · have hv := thv_thr hv hw hn
    exact vx_out (fun x h => (htab x h).elim) hlocks hce hcv hcl (fun t ht ha => XP_mk hn (hv.symm.trans eV) hS hP hK ha (by rw [ht]; exact Nat.le_refl _) (fun q _ => by rw [ht])) hS.2.2 (Nat.le_of_ble_eq_true rfl) (Nat.le_of_ble_eq_true rfl)
  · obtain ⟨M_1, eM_1⟩ : ∃ z, z = u := ⟨_, rfl⟩
    rw [← eM_1] at hP hw
    have hv := thv_ret hv hw
    refine lv_aload_n hx hb dX5_combinedOffset_4 rfl (lv_at hl 0 rfl) ?_
    refine fg_X5_32 hx hb hts hK hP hown dX5_combinedOffset_5 ?_
    refine kVl hx hb hml hown hts hK hP hS hA (As := []) (rest := []) (c_X3_weightedOffset l dC dI cA ad hI M_1   ) (mkV hts q_765 q_50 q_762 q_763 q_764 hyX3_weightedOffset rfl rfl ⟨(Nat.le_of_ble_eq_true rfl), (Nat.le_of_ble_eq_true rfl)⟩) (w_recv hK hP (k := 4) (by decide) lyC4 (q := (RX3, TX3, 9)) rfl) rfl hl.1 rfl (Nat.le_of_ble_eq_true rfl) dX5_combinedOffset_8 ⟨(Nat.le_of_ble_eq_true rfl), (Nat.le_of_ble_eq_true rfl)⟩ (fun r u H locs hw hP hS _ _ => ?_)
    obtain ⟨hw, hu⟩ := hw
    rw [hu] at hP
    have hv := bnd_name hv hw
    obtain ⟨r_2, er_2⟩ : ∃ z, z = r := ⟨_, rfl⟩
    rw [← er_2] at hv hw
    refine w_eql er_2.symm ?_
    have gr_2 := hw
    exact vx_ret (W.widen (k := 1) (n := 6) (Nat.le_of_ble_eq_true rfl) (Nat.le_of_ble_eq_true rfl) (W.lret (v := r_2) hx hb hr (fun t ht hW => ⟨⟨_, M_1, rfl, hv.symm.trans eV, by rw [ht]; exact hP, va_K.moved hW.alike hK⟩, hS.F ht⟩) hS.2.2 dX5_combinedOffset_11))
def f_X5_synchronize (M : Mem)  : Nat × Int32 × Mem := bnd (f_X5_select M  ) fun M_1 => bnd (f_X3_isMajority M_1  ) fun r_2 => if r_2 = (0 : Int32) then (2, 0, M_1) else bnd (f_X3_weightedOffset M_1  ) fun r_4 => bnd (f_X5_correctRate M_1  r_4) fun M_5 => bnd2 (f_X5_correctTime M_5  r_4) fun r_7 M_6 => bnd (f_X5_takeStratumOfPeer M_6  ) fun M_9 => bnd (f_X5_forgetSamples M_9  ) fun M_10 => bnd (f_X1_reading M_10  ) fun r_11 => bnd (sL M_10 (1) r_11) fun M_12 => bnd (sI M_12 (3) (gI M_12 (3) + (1 : Int32))) fun M_13 => (0, r_7, M_13)
theorem hyX5_synchronize : yX5_synchronize.cls ≠ "java/lang/invoke/MethodHandle" ∧ yX5_synchronize.cls ≠ "java/lang/invoke/VarHandle" ∧ (parseMethodDescriptor yX5_synchronize.desc).map (fun d => d.parameters.length) = some 0 := by decide +kernel
set_option maxHeartbeats 4000000 in
set_option maxRecDepth 100000 in
theorem c_X5_synchronize (l : Launch) (hfl : l.stackTraces = false) (dC : Nat → ClassId) (dI : Nat → Nat → Nat) (cA : Nat → ClassId) (ad : Nat → Nat) (hI : Inj 69 ad) (M : Mem)   : vx_Met l yX5_synchronize (.code yX5_synchronize cX5_synchronize 4 (some .int) :: AG) ({ frames := 6, cells := 1, slots := 6, locals := 141 } : Room) (va_Pc [.ref (ad (0))] (PX dC dI cA ad M)) (va_Qi (fun r u => (0, r, u) = f_X5_synchronize M ) (PC dC dI cA ad) (adS 69 ad)) (XP 69 layC dC dI cA ad (fun n u => (n, 0, u) = f_X5_synchronize M )) 1 6 (adS 69 ad) := by
  refine xMet (by decide) (Nat.le_of_ble_eq_true rfl) ?_
  intro p e s m below meth c ls hx hb hr hml hlocks hown hts hK hP hS hl hKX htab
  have hA : ∀ q, adS 69 ad q → adS 69 ad q := fun _ h => h
  have hl : lv_has ls 4 [(0, .ref (ad (0)))] := hl
  obtain ⟨V, eV⟩ : ∃ z, z = f_X5_synchronize M  := ⟨_, rfl⟩
  have hv := eV
  unfold f_X5_synchronize at hv
  refine lv_aload_n hx hb dX5_synchronize_0 rfl (lv_at hl 0 rfl) ?_
  refine kVv hx hb hml hown hts hK hP hS hA (As := []) (rest := []) (c_X5_select l dC dI cA ad hI M   ) (mkV hts q_295 q_47 q_292 q_294 q_1 hyX5_select rfl rfl ⟨(Nat.le_of_ble_eq_true rfl), (Nat.le_of_ble_eq_true rfl)⟩) (w_recv hK hP (k := 0) (by decide) lyC0 (q := (RX5, TX5, 10)) rfl) rfl hl.1 rfl (Nat.le_of_ble_eq_true rfl) dX5_synchronize_1 ⟨(Nat.le_of_ble_eq_true rfl), (Nat.le_of_ble_eq_true rfl)⟩ (fun u H locs hw hP hS _ _ => ?_)
  obtain ⟨M_1, eM_1⟩ : ∃ z, z = u := ⟨_, rfl⟩
  rw [← eM_1] at hP hw
  have gM_1 := hw
  have hv := bnd_name hv hw
  refine lv_aload_n hx hb dX5_synchronize_4 rfl (lv_at hl 0 rfl) ?_
  refine fg_X5_32 hx hb hts hK hP hown dX5_synchronize_5 ?_
  refine kVi hx hb hml hown hts hK hP hS hA (As := []) (rest := []) (c_X3_isMajority l dC dI cA ad hI M_1   ) (mkV hts q_406 q_50 q_403 q_404 q_405 hyX3_isMajority rfl rfl ⟨(Nat.le_of_ble_eq_true rfl), (Nat.le_of_ble_eq_true rfl)⟩) (w_recv hK hP (k := 4) (by decide) lyC4 (q := (RX3, TX3, 9)) rfl) rfl hl.1 rfl (Nat.le_of_ble_eq_true rfl) dX5_synchronize_8 ⟨(Nat.le_of_ble_eq_true rfl), (Nat.le_of_ble_eq_true rfl)⟩ (fun r u H locs hw hP hS _ _ => ?_)
  obtain ⟨hw, hu⟩ := hw
  rw [hu] at hP
  have hv := bnd_name hv hw
  obtain ⟨r_2, er_2⟩ : ∃ z, z = r := ⟨_, rfl⟩
  rw [← er_2] at hv hw
  refine w_eqi er_2.symm ?_
  have gr_2 := hw
  have br_2 : r_2 = 0 ∨ r_2 = 1 := by rw [hw]; exact f_X3_isMajority_b M_1  
  refine j0_ne (tgt := 22) hx hb dX5_synchronize_11 (by decide) (fun c_3 => ?_) (fun c_3 => ?_)
  · have hv := hv.trans (if_pos c_3)
    exact vx_throw0 hx hb hfl (own := RX5) (cls := "java/lang/IllegalStateException") (names := exNames) (ik := 54) (ic := 56) hown (by decide +kernel) (by decide +kernel) (hts _ q_537) (hts _ q_58) (ta2 hts hKX.2.2) to2 hKX.1 hKX.2.1 hS (hl.1.trans hml.symm) dX5_synchronize_14 dX5_synchronize_17 dX5_synchronize_18 dX5_synchronize_21 (fun x h => (htab x h).elim) (Nat.le_of_ble_eq_true rfl) (Nat.le_of_ble_eq_true rfl) (Nat.le_of_ble_eq_true rfl) (Nat.le_of_ble_eq_true rfl) hlocks (fun t ha hz hk => XP_mk (n := 2) (by decide) (hv.symm.trans eV) hS hP hK ha hz hk) hS.2.2 (Nat.le_of_ble_eq_true rfl) (Nat.le_of_ble_eq_true rfl)
  · have hv := hv.trans (if_neg c_3)
    refine lv_aload_n hx hb dX5_synchronize_22 rfl (lv_at hl 0 rfl) ?_
    refine fg_X5_32 hx hb hts hK hP hown dX5_synchronize_23 ?_
    refine kVl hx hb hml hown hts hK hP hS hA (As := []) (rest := []) (c_X3_weightedOffset l dC dI cA ad hI M_1   ) (mkV hts q_765 q_50 q_762 q_763 q_764 hyX3_weightedOffset rfl rfl ⟨(Nat.le_of_ble_eq_true rfl), (Nat.le_of_ble_eq_true rfl)⟩) (w_recv hK hP (k := 4) (by decide) lyC4 (q := (RX3, TX3, 9)) rfl) rfl hl.1 rfl (Nat.le_of_ble_eq_true rfl) dX5_synchronize_26 ⟨(Nat.le_of_ble_eq_true rfl), (Nat.le_of_ble_eq_true rfl)⟩ (fun r u H locs hw hP hS _ _ => ?_)
    obtain ⟨hw, hu⟩ := hw
    rw [hu] at hP
    have hv := bnd_name hv hw
    obtain ⟨r_4, er_4⟩ : ∃ z, z = r := ⟨_, rfl⟩
    rw [← er_4] at hv hw
    refine w_eql er_4.symm ?_
    have gr_4 := hw
    refine lv_lstore_n (lv' := [(1, .long r_4), (0, .ref (ad (0)))]) hx hb dX5_synchronize_29 rfl hl (by decide) rfl (fun ls hl => ?_)
    refine lv_aload_n hx hb dX5_synchronize_30 rfl (lv_at hl 1 rfl) ?_
    refine lv_lload_n hx hb dX5_synchronize_31 rfl (lv_at hl 0 rfl) ?_
    refine kVv hx hb hml hown hts hK hP hS hA (As := [.long r_4]) (rest := []) (c_X5_correctRate l dC dI cA ad hI M_1  r_4 ) (mkV hts q_783 q_47 q_780 q_782 q_20 hyX5_correctRate rfl rfl ⟨(Nat.le_of_ble_eq_true rfl), (Nat.le_of_ble_eq_true rfl)⟩) (w_recv hK hP (k := 0) (by decide) lyC0 (q := (RX5, TX5, 10)) rfl) rfl hl.1 rfl (Nat.le_of_ble_eq_true rfl) dX5_synchronize_32 ⟨(Nat.le_of_ble_eq_true rfl), (Nat.le_of_ble_eq_true rfl)⟩ (fun u H locs hw hP hS _ _ => ?_)
    obtain ⟨M_5, eM_5⟩ : ∃ z, z = u := ⟨_, rfl⟩
    rw [← eM_5] at hP hw
    have gM_5 := hw
    have hv := bnd_name hv hw
    refine lv_aload_n hx hb dX5_synchronize_35 rfl (lv_at hl 1 rfl) ?_
    refine lv_lload_n hx hb dX5_synchronize_36 rfl (lv_at hl 0 rfl) ?_
    refine kVi hx hb hml hown hts hK hP hS hA (As := [.long r_4]) (rest := []) (c_X5_correctTime l dC dI cA ad hI M_5  r_4 ) (mkV hts q_794 q_47 q_791 q_793 q_21 hyX5_correctTime rfl rfl ⟨(Nat.le_of_ble_eq_true rfl), (Nat.le_of_ble_eq_true rfl)⟩) (w_recv hK hP (k := 0) (by decide) lyC0 (q := (RX5, TX5, 10)) rfl) rfl hl.1 rfl (Nat.le_of_ble_eq_true rfl) dX5_synchronize_37 ⟨(Nat.le_of_ble_eq_true rfl), (Nat.le_of_ble_eq_true rfl)⟩ (fun r u H locs hw hP hS _ _ => ?_)
    obtain ⟨M_6, eM_6⟩ : ∃ z, z = u := ⟨_, rfl⟩
    rw [← eM_6] at hP hw
    obtain ⟨r_7, er_7⟩ : ∃ z, z = r := ⟨_, rfl⟩
    rw [← er_7] at hw
    refine w_eqi er_7.symm ?_
    have gM_6 := hw
    have hv := bnd2_name hv hw
    refine lv_istore_n (lv' := [(3, .int r_7), (1, .long r_4), (0, .ref (ad (0)))]) hx hb dX5_synchronize_40 rfl hl (by decide) rfl (fun ls hl => ?_)
    refine lv_aload_n hx hb dX5_synchronize_41 rfl (lv_at hl 2 rfl) ?_
    refine kVv hx hb hml hown hts hK hP hS hA (As := []) (rest := []) (c_X5_takeStratumOfPeer l dC dI cA ad hI M_6   ) (mkV hts q_807 q_47 q_804 q_806 q_22 hyX5_takeStratumOfPeer rfl rfl ⟨(Nat.le_of_ble_eq_true rfl), (Nat.le_of_ble_eq_true rfl)⟩) (w_recv hK hP (k := 0) (by decide) lyC0 (q := (RX5, TX5, 10)) rfl) rfl hl.1 rfl (Nat.le_of_ble_eq_true rfl) dX5_synchronize_42 ⟨(Nat.le_of_ble_eq_true rfl), (Nat.le_of_ble_eq_true rfl)⟩ (fun u H locs hw hP hS _ _ => ?_)
    obtain ⟨M_9, eM_9⟩ : ∃ z, z = u := ⟨_, rfl⟩
    rw [← eM_9] at hP hw
    have gM_9 := hw
    have hv := bnd_name hv hw
    refine lv_aload_n hx hb dX5_synchronize_45 rfl (lv_at hl 2 rfl) ?_
    refine kVv hx hb hml hown hts hK hP hS hA (As := []) (rest := []) (c_X5_forgetSamples l dC dI cA ad hI M_9   ) (mkV hts q_812 q_47 q_809 q_811 q_23 hyX5_forgetSamples rfl rfl ⟨(Nat.le_of_ble_eq_true rfl), (Nat.le_of_ble_eq_true rfl)⟩) (w_recv hK hP (k := 0) (by decide) lyC0 (q := (RX5, TX5, 10)) rfl) rfl hl.1 rfl (Nat.le_of_ble_eq_true rfl) dX5_synchronize_46 ⟨(Nat.le_of_ble_eq_true rfl), (Nat.le_of_ble_eq_true rfl)⟩ (fun u H locs hw hP hS _ _ => ?_)
    obtain ⟨M_10, eM_10⟩ : ∃ z, z = u := ⟨_, rfl⟩
    rw [← eM_10] at hP hw
    have gM_10 := hw
    have hv := bnd_name hv hw
    refine lv_aload_n hx hb dX5_synchronize_49 rfl (lv_at hl 2 rfl) ?_
    refine lv_aload_n hx hb dX5_synchronize_50 rfl (lv_at hl 2 rfl) ?_
    refine fg_X5_10 hx hb hts hK hP hown dX5_synchronize_51 ?_
    refine kVl hx hb hml hown hts hK hP hS hA (As := []) (rest := [.ref (ad (0))]) (c_X1_reading l dC dI cA ad hI M_10   ) (mkV hts q_239 q_48 q_236 q_237 q_238 hyX1_reading rfl rfl ⟨(Nat.le_of_ble_eq_true rfl), (Nat.le_of_ble_eq_true rfl)⟩) (w_recv hK hP (k := 1) (by decide) lyC1 (q := (RX1, TX1, 4)) rfl) rfl hl.1 rfl (Nat.le_of_ble_eq_true rfl) dX5_synchronize_54 ⟨(Nat.le_of_ble_eq_true rfl), (Nat.le_of_ble_eq_true rfl)⟩ (fun r u H locs hw hP hS _ _ => ?_)
    obtain ⟨hw, hu⟩ := hw
    rw [hu] at hP
    have hv := bnd_name hv hw
    obtain ⟨r_11, er_11⟩ : ∃ z, z = r := ⟨_, rfl⟩
    rw [← er_11] at hv hw
    refine w_eql er_11.symm ?_
    have gr_11 := hw
    refine fp_X5_186 hx hb hts hK hP hI hS hA hown dX5_synchronize_57 (fun H locs hP hS => ?_)
    obtain ⟨M_12, eM_12⟩ : ∃ z : Mem, z = sL M_10 (1) r_11 := ⟨_, rfl⟩
    rw [← eM_12] at hP
    have hv := bnd_name hv eM_12
    refine lv_aload_n hx hb dX5_synchronize_60 rfl (lv_at hl 2 rfl) ?_
    refine lv_dup hx hb dX5_synchronize_61 rfl ?_
    refine fg_X5_189 hx hb hts hK hP hown dX5_synchronize_62 ?_
    refine lv_iconst (v := 1) hx hb dX5_synchronize_65 (by decide) ?_
    refine lv_iadd hx hb dX5_synchronize_66 ?_
    refine fp_X5_189 hx hb hts hK hP hI hS hA hown dX5_synchronize_67 (fun H locs hP hS => ?_)
    obtain ⟨M_13, eM_13⟩ : ∃ z : Mem, z = sI M_12 (3) (gI M_12 (3) + (1 : Int32)) := ⟨_, rfl⟩
    rw [← eM_13] at hP
    have hv := bnd_name hv eM_13
    refine lv_iload_n hx hb dX5_synchronize_70 rfl (lv_at hl 0 rfl) ?_
    exact vx_ret (W.widen (k := 1) (n := 6) (Nat.le_of_ble_eq_true rfl) (Nat.le_of_ble_eq_true rfl) (W.iret (v := r_7) hx hb hr (fun t ht hW => ⟨⟨_, M_13, rfl, hv.symm.trans eV, by rw [ht]; exact hP, va_K.moved hW.alike hK⟩, hS.F ht⟩) hS.2.2 dX5_synchronize_71))
