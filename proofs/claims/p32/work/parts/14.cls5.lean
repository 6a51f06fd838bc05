def f_X5_isWithin (p0 : Int32) (p1 : Int32) (p2 : Int32) : Int32 := if p0 < p1 then (0 : Int32) else if p2 < p0 then (0 : Int32) else (1 : Int32)
theorem hyX5_isWithin : yX5_isWithin.cls ≠ "java/lang/invoke/MethodHandle" ∧ yX5_isWithin.cls ≠ "java/lang/invoke/VarHandle" ∧ (parseMethodDescriptor yX5_isWithin.desc).map (fun d => d.parameters.length) = some 3 := by decide +kernel
set_option maxHeartbeats 4000000 in
set_option maxRecDepth 100000 in
theorem c_X5_isWithin (l : Launch) (p0 : Int32) (p1 : Int32) (p2 : Int32)  : Met l yX5_isWithin (.code yX5_isWithin cX5_isWithin 3 (some .boolean) :: AG) ({ frames := 0, cells := 0, slots := 0, locals := 0 } : Room) (fun v _ => v = ([.int p0, .int p1, .int p2] : List Value).toArray) (vp_Si (fun r => r = f_X5_isWithin p0 p1 p2)) 0 0 (fun _ => False) := by
  refine sMet (by decide) (Nat.le_of_ble_eq_true rfl) ?_
  intro p e s m below meth c ls hx hb hr hml hlocks hown hts hl
  have hl : lv_has ls 3 [(0, .int p0), (1, .int p1), (2, .int p2)] := hl
  obtain ⟨V, eV⟩ : ∃ z, z = f_X5_isWithin p0 p1 p2 := ⟨_, rfl⟩
  have hv := eV
  unfold f_X5_isWithin at hv
  refine lv_iload_n hx hb dX5_isWithin_0 rfl (lv_at hl 0 rfl) ?_
  refine lv_iload_n hx hb dX5_isWithin_1 rfl (lv_at hl 1 rfl) ?_
  refine jI_lt (tgt := 14) hx hb dX5_isWithin_2 (by decide) (fun c_1 => ?_) (fun c_1 => ?_)
  · have hv := hv.trans (if_pos c_1)
    refine lv_iconst (v := 0) hx hb dX5_isWithin_14 (by decide) ?_
    exact W.zret (v := (0 : Int32)) hx hb hr rfl (fun t ht hW => ⟨_, rfl, hv.symm.trans eV, ht⟩) (fun q h => nomatch h) dX5_isWithin_15
  · have hv := hv.trans (if_neg c_1)
    refine lv_iload_n hx hb dX5_isWithin_5 rfl (lv_at hl 0 rfl) ?_
    refine lv_iload_n hx hb dX5_isWithin_6 rfl (lv_at hl 2 rfl) ?_
    refine jI_gt (tgt := 14) hx hb dX5_isWithin_7 (by decide) (fun c_2 => ?_) (fun c_2 => ?_)
    · have hv := hv.trans (if_pos c_2)
      refine lv_iconst (v := 0) hx hb dX5_isWithin_14 (by decide) ?_
      exact W.zret (v := (0 : Int32)) hx hb hr rfl (fun t ht hW => ⟨_, rfl, hv.symm.trans eV, ht⟩) (fun q h => nomatch h) dX5_isWithin_15
    · have hv := hv.trans (if_neg c_2)
      refine lv_iconst (v := 1) hx hb dX5_isWithin_10 (by decide) ?_
      refine lv_goto (tgt := 15) hx hb dX5_isWithin_11 (by decide) ?_
      exact W.zret (v := (1 : Int32)) hx hb hr rfl (fun t ht hW => ⟨_, rfl, hv.symm.trans eV, ht⟩) (fun q h => nomatch h) dX5_isWithin_15
theorem f_X5_isWithin_b (p0 : Int32) (p1 : Int32) (p2 : Int32) : (f_X5_isWithin p0 p1 p2) = 0 ∨ (f_X5_isWithin p0 p1 p2) = 1 := by
  unfold f_X5_isWithin
  repeat' (first | with_reducible refine bnd_or (fun _ => ?_) | with_reducible refine bnd2_or (fun _ _ => ?_) | with_reducible refine ite_or ?_ ?_ | exact Or.inl rfl | exact Or.inr rfl)
def f_X5_isServerError (p0 : Int32) : Int32 := bnd ((f_X5_isWithin p0 ((-1000000) : Int32) (1000000 : Int32))) fun x_1 => x_1
theorem hyX5_isServerError : yX5_isServerError.cls ≠ "java/lang/invoke/MethodHandle" ∧ yX5_isServerError.cls ≠ "java/lang/invoke/VarHandle" ∧ (parseMethodDescriptor yX5_isServerError.desc).map (fun d => d.parameters.length) = some 1 := by decide +kernel
set_option maxHeartbeats 4000000 in
set_option maxRecDepth 100000 in
theorem c_X5_isServerError (l : Launch) (p0 : Int32)  : Met l yX5_isServerError (.code yX5_isServerError cX5_isServerError 1 (some .boolean) :: AG) ({ frames := 1, cells := 0, slots := 0, locals := 22 } : Room) (fun v _ => v = ([.int p0] : List Value).toArray) (vp_Si (fun r => r = f_X5_isServerError p0)) 0 0 (fun _ => False) := by
  refine sMet (by decide) (Nat.le_of_ble_eq_true rfl) ?_
  intro p e s m below meth c ls hx hb hr hml hlocks hown hts hl
  have hl : lv_has ls 1 [(0, .int p0)] := hl
  obtain ⟨V, eV⟩ : ∃ z, z = f_X5_isServerError p0 := ⟨_, rfl⟩
  have hv := eV
  unfold f_X5_isServerError at hv
  refine lv_iload_n hx hb dX5_isServerError_0 rfl (lv_at hl 0 rfl) ?_
  refine lv_ldc (v := (-1000000)) hx hb hown (hts _ q_604) dX5_isServerError_1 ?_
  refine lv_ldc (v := 1000000) hx hb hown (hts _ q_605) dX5_isServerError_3 ?_
  refine kSi hx hb hml hown hts (As := [.int p0, .int ((-1000000) : Int32), .int (1000000 : Int32)]) (rest := []) (c_X5_isWithin l p0 ((-1000000) : Int32) (1000000 : Int32) ) (mkS hts q_460 q_47 q_458 q_459 hyX5_isWithin rfl rfl ⟨(Nat.le_of_ble_eq_true rfl), (Nat.le_of_ble_eq_true rfl)⟩) rfl hl.1 rfl (Nat.le_of_ble_eq_true rfl) dX5_isServerError_5 ⟨(Nat.le_of_ble_eq_true rfl), (Nat.le_of_ble_eq_true rfl)⟩ ?_
  refine lv_topi (fun x_1 ex_1 => ?_)
  have hv := bnd_name hv ex_1
  have bx_1 : x_1 = 0 ∨ x_1 = 1 := by rw [ex_1]; exact f_X5_isWithin_b p0 ((-1000000) : Int32) (1000000 : Int32)
  exact W.zret (v := x_1) hx hb hr (nar_b bx_1) (fun t ht hW => ⟨_, rfl, hv.symm.trans eV, ht⟩) (fun q h => nomatch h) dX5_isServerError_8
theorem f_X5_isServerError_b (p0 : Int32) : (f_X5_isServerError p0) = 0 ∨ (f_X5_isServerError p0) = 1 := by
  unfold f_X5_isServerError
  repeat' (first | with_reducible refine bnd_id (by apply f_X5_isWithin_b) | with_reducible refine bnd_or (fun _ => ?_) | with_reducible refine bnd2_or (fun _ _ => ?_) | with_reducible refine ite_or ?_ ?_ | exact Or.inl rfl | exact Or.inr rfl)
def f_X5_trueTime (M : Mem)  : Int64 := gL M (0)
theorem hyX5_trueTime : yX5_trueTime.cls ≠ "java/lang/invoke/MethodHandle" ∧ yX5_trueTime.cls ≠ "java/lang/invoke/VarHandle" ∧ (parseMethodDescriptor yX5_trueTime.desc).map (fun d => d.parameters.length) = some 0 := by decide +kernel
set_option maxHeartbeats 4000000 in
set_option maxRecDepth 100000 in
theorem c_X5_trueTime (l : Launch) (dC : Nat → ClassId) (dI : Nat → Nat → Nat) (cA : Nat → ClassId) (ad : Nat → Nat) (hI : Inj 69 ad) (M : Mem)   : Met l yX5_trueTime (.code yX5_trueTime cX5_trueTime 1 (some .long) :: AG) ({ frames := 0, cells := 0, slots := 0, locals := 0 } : Room) (va_Pc [.ref (ad (0))] (PC dC dI cA ad M)) (va_Ql (fun r u => r = f_X5_trueTime M  ∧ u = M) (PC dC dI cA ad) (adS 69 ad)) 0 0 (adS 69 ad) := by
  refine cMet (by decide) (Nat.le_of_ble_eq_true rfl) ?_
  intro p e s m below meth c ls hx hb hr hml hlocks hown hts hK hP hS hl
  have hA : ∀ q, adS 69 ad q → adS 69 ad q := fun _ h => h
  have hl : lv_has ls 1 [(0, .ref (ad (0)))] := hl
  obtain ⟨V, eV⟩ : ∃ z, z = f_X5_trueTime M  := ⟨_, rfl⟩
  have hv := eV
  unfold f_X5_trueTime at hv
  refine lv_aload_n hx hb dX5_trueTime_0 rfl (lv_at hl 0 rfl) ?_
  refine fg_X5_68 hx hb hts hK hP hown dX5_trueTime_1 ?_
  exact W.lret (v := gL M (0)) hx hb hr (fun t ht hW => ⟨⟨_, M, rfl, ⟨hv.symm.trans eV, rfl⟩, by rw [ht]; exact hP, va_K.moved hW.alike hK⟩, hS.F ht⟩) hS.2.2 dX5_trueTime_4
def f_X5_clock (M : Mem)  : Int64 := bnd (f_X1_reading M  ) fun r_1 => r_1
theorem hyX5_clock : yX5_clock.cls ≠ "java/lang/invoke/MethodHandle" ∧ yX5_clock.cls ≠ "java/lang/invoke/VarHandle" ∧ (parseMethodDescriptor yX5_clock.desc).map (fun d => d.parameters.length) = some 0 := by decide +kernel
set_option maxHeartbeats 4000000 in
set_option maxRecDepth 100000 in
theorem c_X5_clock (l : Launch) (dC : Nat → ClassId) (dI : Nat → Nat → Nat) (cA : Nat → ClassId) (ad : Nat → Nat) (hI : Inj 69 ad) (M : Mem)   : Met l yX5_clock (.code yX5_clock cX5_clock 1 (some .long) :: AG) ({ frames := 2, cells := 0, slots := 0, locals := 45 } : Room) (va_Pc [.ref (ad (0))] (PC dC dI cA ad M)) (va_Ql (fun r u => r = f_X5_clock M  ∧ u = M) (PC dC dI cA ad) (adS 69 ad)) 0 0 (adS 69 ad) := by
  refine cMet (by decide) (Nat.le_of_ble_eq_true rfl) ?_
  intro p e s m below meth c ls hx hb hr hml hlocks hown hts hK hP hS hl
  have hA : ∀ q, adS 69 ad q → adS 69 ad q := fun _ h => h
  have hl : lv_has ls 1 [(0, .ref (ad (0)))] := hl
  obtain ⟨V, eV⟩ : ∃ z, z = f_X5_clock M  := ⟨_, rfl⟩
  have hv := eV
  unfold f_X5_clock at hv
  refine lv_aload_n hx hb dX5_clock_0 rfl (lv_at hl 0 rfl) ?_
  refine fg_X5_10 hx hb hts hK hP hown dX5_clock_1 ?_
  refine kVl hx hb hml hown hts hK hP hS hA (As := []) (rest := []) (c_X1_reading l dC dI cA ad hI M   ) (mkV hts q_239 q_48 q_236 q_237 q_238 hyX1_reading rfl rfl ⟨(Nat.le_of_ble_eq_true rfl), (Nat.le_of_ble_eq_true rfl)⟩) (w_recv hK hP (k := 1) (by decide) lyC1 (q := (RX1, TX1, 4)) rfl) rfl hl.1 rfl (Nat.le_of_ble_eq_true rfl) dX5_clock_4 ⟨(Nat.le_of_ble_eq_true rfl), (Nat.le_of_ble_eq_true rfl)⟩ (fun r u H locs hw hP hS _ _ => ?_)
  obtain ⟨hw, hu⟩ := hw
  rw [hu] at hP
  have hv := bnd_name hv hw
  obtain ⟨r_1, er_1⟩ : ∃ z, z = r := ⟨_, rfl⟩
  rw [← er_1] at hv hw
  refine w_eql er_1.symm ?_
  have gr_1 := hw
  exact W.lret (v := r_1) hx hb hr (fun t ht hW => ⟨⟨_, M, rfl, ⟨hv.symm.trans eV, rfl⟩, by rw [ht]; exact hP, va_K.moved hW.alike hK⟩, hS.F ht⟩) hS.2.2 dX5_clock_7
def f_X5_error (M : Mem)  : Int64 := bnd (f_X1_reading M  ) fun r_1 => (r_1 - gL M (0))
theorem hyX5_error : yX5_error.cls ≠ "java/lang/invoke/MethodHandle" ∧ yX5_error.cls ≠ "java/lang/invoke/VarHandle" ∧ (parseMethodDescriptor yX5_error.desc).map (fun d => d.parameters.length) = some 0 := by decide +kernel
set_option maxHeartbeats 4000000 in
set_option maxRecDepth 100000 in
theorem c_X5_error (l : Launch) (dC : Nat → ClassId) (dI : Nat → Nat → Nat) (cA : Nat → ClassId) (ad : Nat → Nat) (hI : Inj 69 ad) (M : Mem)   : Met l yX5_error (.code yX5_error cX5_error 1 (some .long) :: AG) ({ frames := 2, cells := 0, slots := 0, locals := 45 } : Room) (va_Pc [.ref (ad (0))] (PC dC dI cA ad M)) (va_Ql (fun r u => r = f_X5_error M  ∧ u = M) (PC dC dI cA ad) (adS 69 ad)) 0 0 (adS 69 ad) := by
  refine cMet (by decide) (Nat.le_of_ble_eq_true rfl) ?_
  intro p e s m below meth c ls hx hb hr hml hlocks hown hts hK hP hS hl
  have hA : ∀ q, adS 69 ad q → adS 69 ad q := fun _ h => h
  have hl : lv_has ls 1 [(0, .ref (ad (0)))] := hl
  obtain ⟨V, eV⟩ : ∃ z, z = f_X5_error M  := ⟨_, rfl⟩
  have hv := eV
  unfold f_X5_error at hv
  refine lv_aload_n hx hb dX5_error_0 rfl (lv_at hl 0 rfl) ?_
  refine fg_X5_10 hx hb hts hK hP hown dX5_error_1 ?_
  refine kVl hx hb hml hown hts hK hP hS hA (As := []) (rest := []) (c_X1_reading l dC dI cA ad hI M   ) (mkV hts q_239 q_48 q_236 q_237 q_238 hyX1_reading rfl rfl ⟨(Nat.le_of_ble_eq_true rfl), (Nat.le_of_ble_eq_true rfl)⟩) (w_recv hK hP (k := 1) (by decide) lyC1 (q := (RX1, TX1, 4)) rfl) rfl hl.1 rfl (Nat.le_of_ble_eq_true rfl) dX5_error_4 ⟨(Nat.le_of_ble_eq_true rfl), (Nat.le_of_ble_eq_true rfl)⟩ (fun r u H locs hw hP hS _ _ => ?_)
  obtain ⟨hw, hu⟩ := hw
  rw [hu] at hP
  have hv := bnd_name hv hw
  obtain ⟨r_1, er_1⟩ : ∃ z, z = r := ⟨_, rfl⟩
  rw [← er_1] at hv hw
  refine w_eql er_1.symm ?_
  have gr_1 := hw
  refine lv_aload_n hx hb dX5_error_7 rfl (lv_at hl 0 rfl) ?_
  refine fg_X5_68 hx hb hts hK hP hown dX5_error_8 ?_
  refine lv_lsub hx hb dX5_error_11 ?_
  exact W.lret (v := (r_1 - gL M (0))) hx hb hr (fun t ht hW => ⟨⟨_, M, rfl, ⟨hv.symm.trans eV, rfl⟩, by rw [ht]; exact hP, va_K.moved hW.alike hK⟩, hS.F ht⟩) hS.2.2 dX5_error_12
def f_X5_pendingSlew (M : Mem)  : Int64 := bnd (f_X1_pendingMicros M  ) fun r_1 => r_1
theorem hyX5_pendingSlew : yX5_pendingSlew.cls ≠ "java/lang/invoke/MethodHandle" ∧ yX5_pendingSlew.cls ≠ "java/lang/invoke/VarHandle" ∧ (parseMethodDescriptor yX5_pendingSlew.desc).map (fun d => d.parameters.length) = some 0 := by decide +kernel
set_option maxHeartbeats 4000000 in
set_option maxRecDepth 100000 in
theorem c_X5_pendingSlew (l : Launch) (dC : Nat → ClassId) (dI : Nat → Nat → Nat) (cA : Nat → ClassId) (ad : Nat → Nat) (hI : Inj 69 ad) (M : Mem)   : Met l yX5_pendingSlew (.code yX5_pendingSlew cX5_pendingSlew 1 (some .long) :: AG) ({ frames := 1, cells := 0, slots := 0, locals := 20 } : Room) (va_Pc [.ref (ad (0))] (PC dC dI cA ad M)) (va_Ql (fun r u => r = f_X5_pendingSlew M  ∧ u = M) (PC dC dI cA ad) (adS 69 ad)) 0 0 (adS 69 ad) := by
  refine cMet (by decide) (Nat.le_of_ble_eq_true rfl) ?_
  intro p e s m below meth c ls hx hb hr hml hlocks hown hts hK hP hS hl
  have hA : ∀ q, adS 69 ad q → adS 69 ad q := fun _ h => h
  have hl : lv_has ls 1 [(0, .ref (ad (0)))] := hl
  obtain ⟨V, eV⟩ : ∃ z, z = f_X5_pendingSlew M  := ⟨_, rfl⟩
  have hv := eV
  unfold f_X5_pendingSlew at hv
  refine lv_aload_n hx hb dX5_pendingSlew_0 rfl (lv_at hl 0 rfl) ?_
  refine fg_X5_10 hx hb hts hK hP hown dX5_pendingSlew_1 ?_
  refine kVl hx hb hml hown hts hK hP hS hA (As := []) (rest := []) (c_X1_pendingMicros l dC dI cA ad hI M   ) (mkV hts q_254 q_48 q_251 q_252 q_253 hyX1_pendingMicros rfl rfl ⟨(Nat.le_of_ble_eq_true rfl), (Nat.le_of_ble_eq_true rfl)⟩) (w_recv hK hP (k := 1) (by decide) lyC1 (q := (RX1, TX1, 4)) rfl) rfl hl.1 rfl (Nat.le_of_ble_eq_true rfl) dX5_pendingSlew_4 ⟨(Nat.le_of_ble_eq_true rfl), (Nat.le_of_ble_eq_true rfl)⟩ (fun r u H locs hw hP hS _ _ => ?_)
  obtain ⟨hw, hu⟩ := hw
  rw [hu] at hP
  have hv := bnd_name hv hw
  obtain ⟨r_1, er_1⟩ : ∃ z, z = r := ⟨_, rfl⟩
  rw [← er_1] at hv hw
  refine w_eql er_1.symm ?_
  have gr_1 := hw
  exact W.lret (v := r_1) hx hb hr (fun t ht hW => ⟨⟨_, M, rfl, ⟨hv.symm.trans eV, rfl⟩, by rw [ht]; exact hP, va_K.moved hW.alike hK⟩, hS.F ht⟩) hS.2.2 dX5_pendingSlew_7
def f_X5_correction (M : Mem)  : Int32 := bnd (f_X1_presentCorrection M  ) fun r_1 => r_1
theorem hyX5_correction : yX5_correction.cls ≠ "java/lang/invoke/MethodHandle" ∧ yX5_correction.cls ≠ "java/lang/invoke/VarHandle" ∧ (parseMethodDescriptor yX5_correction.desc).map (fun d => d.parameters.length) = some 0 := by decide +kernel
set_option maxHeartbeats 4000000 in
set_option maxRecDepth 100000 in
theorem c_X5_correction (l : Launch) (dC : Nat → ClassId) (dI : Nat → Nat → Nat) (cA : Nat → ClassId) (ad : Nat → Nat) (hI : Inj 69 ad) (M : Mem)   : Met l yX5_correction (.code yX5_correction cX5_correction 1 (some .int) :: AG) ({ frames := 1, cells := 0, slots := 0, locals := 20 } : Room) (va_Pc [.ref (ad (0))] (PC dC dI cA ad M)) (va_Qi (fun r u => r = f_X5_correction M  ∧ u = M) (PC dC dI cA ad) (adS 69 ad)) 0 0 (adS 69 ad) := by
  refine cMet (by decide) (Nat.le_of_ble_eq_true rfl) ?_
  intro p e s m below meth c ls hx hb hr hml hlocks hown hts hK hP hS hl
  have hA : ∀ q, adS 69 ad q → adS 69 ad q := fun _ h => h
  have hl : lv_has ls 1 [(0, .ref (ad (0)))] := hl
  obtain ⟨V, eV⟩ : ∃ z, z = f_X5_correction M  := ⟨_, rfl⟩
  have hv := eV
  unfold f_X5_correction at hv
  refine lv_aload_n hx hb dX5_correction_0 rfl (lv_at hl 0 rfl) ?_
  refine fg_X5_10 hx hb hts hK hP hown dX5_correction_1 ?_
  refine kVi hx hb hml hown hts hK hP hS hA (As := []) (rest := []) (c_X1_presentCorrection l dC dI cA ad hI M   ) (mkV hts q_262 q_48 q_259 q_260 q_261 hyX1_presentCorrection rfl rfl ⟨(Nat.le_of_ble_eq_true rfl), (Nat.le_of_ble_eq_true rfl)⟩) (w_recv hK hP (k := 1) (by decide) lyC1 (q := (RX1, TX1, 4)) rfl) rfl hl.1 rfl (Nat.le_of_ble_eq_true rfl) dX5_correction_4 ⟨(Nat.le_of_ble_eq_true rfl), (Nat.le_of_ble_eq_true rfl)⟩ (fun r u H locs hw hP hS _ _ => ?_)
  obtain ⟨hw, hu⟩ := hw
  rw [hu] at hP
  have hv := bnd_name hv hw
  obtain ⟨r_1, er_1⟩ : ∃ z, z = r := ⟨_, rfl⟩
  rw [← er_1] at hv hw
  refine w_eqi er_1.symm ?_
  have gr_1 := hw
  exact W.iret (v := r_1) hx hb hr (fun t ht hW => ⟨⟨_, M, rfl, ⟨hv.symm.trans eV, rfl⟩, by rw [ht]; exact hP, va_K.moved hW.alike hK⟩, hS.F ht⟩) hS.2.2 dX5_correction_7
def f_X5_servers (M : Mem)  : Int32 := gI M (0)
theorem hyX5_servers : yX5_servers.cls ≠ "java/lang/invoke/MethodHandle" ∧ yX5_servers.cls ≠ "java/lang/invoke/VarHandle" ∧ (parseMethodDescriptor yX5_servers.desc).map (fun d => d.parameters.length) = some 0 := by decide +kernel
set_option maxHeartbeats 4000000 in
set_option maxRecDepth 100000 in
theorem c_X5_servers (l : Launch) (dC : Nat → ClassId) (dI : Nat → Nat → Nat) (cA : Nat → ClassId) (ad : Nat → Nat) (hI : Inj 69 ad) (M : Mem)   : Met l yX5_servers (.code yX5_servers cX5_servers 1 (some .int) :: AG) ({ frames := 0, cells := 0, slots := 0, locals := 0 } : Room) (va_Pc [.ref (ad (0))] (PC dC dI cA ad M)) (va_Qi (fun r u => r = f_X5_servers M  ∧ u = M) (PC dC dI cA ad) (adS 69 ad)) 0 0 (adS 69 ad) := by
  refine cMet (by decide) (Nat.le_of_ble_eq_true rfl) ?_
  intro p e s m below meth c ls hx hb hr hml hlocks hown hts hK hP hS hl
  have hA : ∀ q, adS 69 ad q → adS 69 ad q := fun _ h => h
  have hl : lv_has ls 1 [(0, .ref (ad (0)))] := hl
  obtain ⟨V, eV⟩ : ∃ z, z = f_X5_servers M  := ⟨_, rfl⟩
  have hv := eV
  unfold f_X5_servers at hv
  refine lv_aload_n hx hb dX5_servers_0 rfl (lv_at hl 0 rfl) ?_
  refine fg_X5_99 hx hb hts hK hP hown dX5_servers_1 ?_
  exact W.iret (v := gI M (0)) hx hb hr (fun t ht hW => ⟨⟨_, M, rfl, ⟨hv.symm.trans eV, rfl⟩, by rw [ht]; exact hP, va_K.moved hW.alike hK⟩, hS.F ht⟩) hS.2.2 dX5_servers_4
def f_X5_stratum (M : Mem)  : Int32 := gI M (1)
theorem hyX5_stratum : yX5_stratum.cls ≠ "java/lang/invoke/MethodHandle" ∧ yX5_stratum.cls ≠ "java/lang/invoke/VarHandle" ∧ (parseMethodDescriptor yX5_stratum.desc).map (fun d => d.parameters.length) = some 0 := by decide +kernel
set_option maxHeartbeats 4000000 in
set_option maxRecDepth 100000 in
theorem c_X5_stratum (l : Launch) (dC : Nat → ClassId) (dI : Nat → Nat → Nat) (cA : Nat → ClassId) (ad : Nat → Nat) (hI : Inj 69 ad) (M : Mem)   : Met l yX5_stratum (.code yX5_stratum cX5_stratum 1 (some .int) :: AG) ({ frames := 0, cells := 0, slots := 0, locals := 0 } : Room) (va_Pc [.ref (ad (0))] (PC dC dI cA ad M)) (va_Qi (fun r u => r = f_X5_stratum M  ∧ u = M) (PC dC dI cA ad) (adS 69 ad)) 0 0 (adS 69 ad) := by
  refine cMet (by decide) (Nat.le_of_ble_eq_true rfl) ?_
  intro p e s m below meth c ls hx hb hr hml hlocks hown hts hK hP hS hl
  have hA : ∀ q, adS 69 ad q → adS 69 ad q := fun _ h => h
  have hl : lv_has ls 1 [(0, .ref (ad (0)))] := hl
  obtain ⟨V, eV⟩ : ∃ z, z = f_X5_stratum M  := ⟨_, rfl⟩
  have hv := eV
  unfold f_X5_stratum at hv
  refine lv_aload_n hx hb dX5_stratum_0 rfl (lv_at hl 0 rfl) ?_
  refine fg_X5_192 hx hb hts hK hP hown dX5_stratum_1 ?_
  exact W.iret (v := gI M (1)) hx hb hr (fun t ht hW => ⟨⟨_, M, rfl, ⟨hv.symm.trans eV, rfl⟩, by rw [ht]; exact hP, va_K.moved hW.alike hK⟩, hS.F ht⟩) hS.2.2 dX5_stratum_4
def f_X5_steps (M : Mem)  : Int32 := gI M (2)
theorem hyX5_steps : yX5_steps.cls ≠ "java/lang/invoke/MethodHandle" ∧ yX5_steps.cls ≠ "java/lang/invoke/VarHandle" ∧ (parseMethodDescriptor yX5_steps.desc).map (fun d => d.parameters.length) = some 0 := by decide +kernel
set_option maxHeartbeats 4000000 in
set_option maxRecDepth 100000 in
theorem c_X5_steps (l : Launch) (dC : Nat → ClassId) (dI : Nat → Nat → Nat) (cA : Nat → ClassId) (ad : Nat → Nat) (hI : Inj 69 ad) (M : Mem)   : Met l yX5_steps (.code yX5_steps cX5_steps 1 (some .int) :: AG) ({ frames := 0, cells := 0, slots := 0, locals := 0 } : Room) (va_Pc [.ref (ad (0))] (PC dC dI cA ad M)) (va_Qi (fun r u => r = f_X5_steps M  ∧ u = M) (PC dC dI cA ad) (adS 69 ad)) 0 0 (adS 69 ad) := by
  refine cMet (by decide) (Nat.le_of_ble_eq_true rfl) ?_
  intro p e s m below meth c ls hx hb hr hml hlocks hown hts hK hP hS hl
  have hA : ∀ q, adS 69 ad q → adS 69 ad q := fun _ h => h
  have hl : lv_has ls 1 [(0, .ref (ad (0)))] := hl
  obtain ⟨V, eV⟩ : ∃ z, z = f_X5_steps M  := ⟨_, rfl⟩
  have hv := eV
  unfold f_X5_steps at hv
  refine lv_aload_n hx hb dX5_steps_0 rfl (lv_at hl 0 rfl) ?_
  refine fg_X5_195 hx hb hts hK hP hown dX5_steps_1 ?_
  exact W.iret (v := gI M (2)) hx hb hr (fun t ht hW => ⟨⟨_, M, rfl, ⟨hv.symm.trans eV, rfl⟩, by rw [ht]; exact hP, va_K.moved hW.alike hK⟩, hS.F ht⟩) hS.2.2 dX5_steps_4
def f_X5_synchronizations (M : Mem)  : Int32 := gI M (3)
theorem hyX5_synchronizations : yX5_synchronizations.cls ≠ "java/lang/invoke/MethodHandle" ∧ yX5_synchronizations.cls ≠ "java/lang/invoke/VarHandle" ∧ (parseMethodDescriptor yX5_synchronizations.desc).map (fun d => d.parameters.length) = some 0 := by decide +kernel
set_option maxHeartbeats 4000000 in
set_option maxRecDepth 100000 in
theorem c_X5_synchronizations (l : Launch) (dC : Nat → ClassId) (dI : Nat → Nat → Nat) (cA : Nat → ClassId) (ad : Nat → Nat) (hI : Inj 69 ad) (M : Mem)   : Met l yX5_synchronizations (.code yX5_synchronizations cX5_synchronizations 1 (some .int) :: AG) ({ frames := 0, cells := 0, slots := 0, locals := 0 } : Room) (va_Pc [.ref (ad (0))] (PC dC dI cA ad M)) (va_Qi (fun r u => r = f_X5_synchronizations M  ∧ u = M) (PC dC dI cA ad) (adS 69 ad)) 0 0 (adS 69 ad) := by
  refine cMet (by decide) (Nat.le_of_ble_eq_true rfl) ?_
  intro p e s m below meth c ls hx hb hr hml hlocks hown hts hK hP hS hl
  have hA : ∀ q, adS 69 ad q → adS 69 ad q := fun _ h => h
  have hl : lv_has ls 1 [(0, .ref (ad (0)))] := hl
  obtain ⟨V, eV⟩ : ∃ z, z = f_X5_synchronizations M  := ⟨_, rfl⟩
  have hv := eV
  unfold f_X5_synchronizations at hv
  refine lv_aload_n hx hb dX5_synchronizations_0 rfl (lv_at hl 0 rfl) ?_
  refine fg_X5_189 hx hb hts hK hP hown dX5_synchronizations_1 ?_
  exact W.iret (v := gI M (3)) hx hb hr (fun t ht hW => ⟨⟨_, M, rfl, ⟨hv.symm.trans eV, rfl⟩, by rw [ht]; exact hP, va_K.moved hW.alike hK⟩, hS.F ht⟩) hS.2.2 dX5_synchronizations_4
def f_X5_civil (M : Mem)  : Int64 := bnd (f_X1_reading M  ) fun r_1 => bnd (f_X0_civilTime M  r_1) fun r_2 => r_2
theorem hyX5_civil : yX5_civil.cls ≠ "java/lang/invoke/MethodHandle" ∧ yX5_civil.cls ≠ "java/lang/invoke/VarHandle" ∧ (parseMethodDescriptor yX5_civil.desc).map (fun d => d.parameters.length) = some 0 := by decide +kernel
set_option maxHeartbeats 4000000 in
set_option maxRecDepth 100000 in
theorem c_X5_civil (l : Launch) (dC : Nat → ClassId) (dI : Nat → Nat → Nat) (cA : Nat → ClassId) (ad : Nat → Nat) (hI : Inj 69 ad) (M : Mem)   : Met l yX5_civil (.code yX5_civil cX5_civil 1 (some .long) :: AG) ({ frames := 3, cells := 0, slots := 0, locals := 69 } : Room) (va_Pc [.ref (ad (0))] (PC dC dI cA ad M)) (va_Ql (fun r u => r = f_X5_civil M  ∧ u = M) (PC dC dI cA ad) (adS 69 ad)) 0 0 (adS 69 ad) := by
  refine cMet (by decide) (Nat.le_of_ble_eq_true rfl) ?_
  intro p e s m below meth c ls hx hb hr hml hlocks hown hts hK hP hS hl
  have hA : ∀ q, adS 69 ad q → adS 69 ad q := fun _ h => h
  have hl : lv_has ls 1 [(0, .ref (ad (0)))] := hl
  obtain ⟨V, eV⟩ : ∃ z, z = f_X5_civil M  := ⟨_, rfl⟩
  have hv := eV
  unfold f_X5_civil at hv
  refine lv_aload_n hx hb dX5_civil_0 rfl (lv_at hl 0 rfl) ?_
  refine fg_X5_19 hx hb hts hK hP hown dX5_civil_1 ?_
  refine lv_aload_n hx hb dX5_civil_4 rfl (lv_at hl 0 rfl) ?_
  refine fg_X5_10 hx hb hts hK hP hown dX5_civil_5 ?_
  refine kVl hx hb hml hown hts hK hP hS hA (As := []) (rest := [.ref (ad (2))]) (c_X1_reading l dC dI cA ad hI M   ) (mkV hts q_239 q_48 q_236 q_237 q_238 hyX1_reading rfl rfl ⟨(Nat.le_of_ble_eq_true rfl), (Nat.le_of_ble_eq_true rfl)⟩) (w_recv hK hP (k := 1) (by decide) lyC1 (q := (RX1, TX1, 4)) rfl) rfl hl.1 rfl (Nat.le_of_ble_eq_true rfl) dX5_civil_8 ⟨(Nat.le_of_ble_eq_true rfl), (Nat.le_of_ble_eq_true rfl)⟩ (fun r u H locs hw hP hS _ _ => ?_)
  obtain ⟨hw, hu⟩ := hw
  rw [hu] at hP
  have hv := bnd_name hv hw
  obtain ⟨r_1, er_1⟩ : ∃ z, z = r := ⟨_, rfl⟩
  rw [← er_1] at hv hw
  refine w_eql er_1.symm ?_
  have gr_1 := hw
  refine kVl hx hb hml hown hts hK hP hS hA (As := [.long r_1]) (rest := []) (c_X0_civilTime l dC dI cA ad hI M  r_1 ) (mkV hts q_270 q_49 q_267 q_268 q_269 hyX0_civilTime rfl rfl ⟨(Nat.le_of_ble_eq_true rfl), (Nat.le_of_ble_eq_true rfl)⟩) (w_recv hK hP (k := 2) (by decide) lyC2 (q := (RX0, TX0, 2)) rfl) rfl hl.1 rfl (Nat.le_of_ble_eq_true rfl) dX5_civil_11 ⟨(Nat.le_of_ble_eq_true rfl), (Nat.le_of_ble_eq_true rfl)⟩ (fun r u H locs hw hP hS _ _ => ?_)
  obtain ⟨hw, hu⟩ := hw
  rw [hu] at hP
  have hv := bnd_name hv hw
  obtain ⟨r_2, er_2⟩ : ∃ z, z = r := ⟨_, rfl⟩
  rw [← er_2] at hv hw
  refine w_eql er_2.symm ?_
  have gr_2 := hw
  exact W.lret (v := r_2) hx hb hr (fun t ht hW => ⟨⟨_, M, rfl, ⟨hv.symm.trans eV, rfl⟩, by rw [ht]; exact hP, va_K.moved hW.alike hK⟩, hS.F ht⟩) hS.2.2 dX5_civil_14
def f_X5_begin (M : Mem) (p0 : Int32) : Mem := bnd (f_X1_begin M  p0) fun M_1 => bnd (f_X0_clear M_1  ) fun M_2 => bnd (sI M_2 (0) (0 : Int32)) fun M_3 => bnd (sL M_3 (0) (0 : Int64)) fun M_4 => bnd (sI M_4 (1) (16 : Int32)) fun M_5 => bnd (sI M_5 (2) (0 : Int32)) fun M_6 => bnd (sI M_6 (3) (0 : Int32)) fun M_7 => bnd (sL M_7 (1) (0 : Int64)) fun M_8 => M_8
theorem hyX5_begin : yX5_begin.cls ≠ "java/lang/invoke/MethodHandle" ∧ yX5_begin.cls ≠ "java/lang/invoke/VarHandle" ∧ (parseMethodDescriptor yX5_begin.desc).map (fun d => d.parameters.length) = some 1 := by decide +kernel
set_option maxHeartbeats 4000000 in
set_option maxRecDepth 100000 in
theorem c_X5_begin (l : Launch) (dC : Nat → ClassId) (dI : Nat → Nat → Nat) (cA : Nat → ClassId) (ad : Nat → Nat) (hI : Inj 69 ad) (M : Mem) (p0 : Int32)  : Met l yX5_begin (.code yX5_begin cX5_begin 2 none :: AG) ({ frames := 1, cells := 0, slots := 0, locals := 21 } : Room) (va_Pc [.ref (ad (0)), .int p0] (PC dC dI cA ad M)) (va_Qv (fun u => u = f_X5_begin M p0) (PC dC dI cA ad) (adS 69 ad)) 0 0 (adS 69 ad) := by
  refine cMet (by decide) (Nat.le_of_ble_eq_true rfl) ?_
  intro p e s m below meth c ls hx hb hr hml hlocks hown hts hK hP hS hl
  have hA : ∀ q, adS 69 ad q → adS 69 ad q := fun _ h => h
  have hl : lv_has ls 2 [(0, .ref (ad (0))), (1, .int p0)] := hl
  obtain ⟨V, eV⟩ : ∃ z, z = f_X5_begin M p0 := ⟨_, rfl⟩
  have hv := eV
  unfold f_X5_begin at hv
  refine lv_aload_n hx hb dX5_begin_0 rfl (lv_at hl 0 rfl) ?_
  refine fg_X5_10 hx hb hts hK hP hown dX5_begin_1 ?_
  refine lv_iload_n hx hb dX5_begin_4 rfl (lv_at hl 1 rfl) ?_
  refine kVv hx hb hml hown hts hK hP hS hA (As := [.int p0]) (rest := []) (c_X1_begin l dC dI cA ad hI M  p0 ) (mkV hts q_191 q_48 q_188 q_189 q_190 hyX1_begin rfl rfl ⟨(Nat.le_of_ble_eq_true rfl), (Nat.le_of_ble_eq_true rfl)⟩) (w_recv hK hP (k := 1) (by decide) lyC1 (q := (RX1, TX1, 4)) rfl) rfl hl.1 rfl (Nat.le_of_ble_eq_true rfl) dX5_begin_5 ⟨(Nat.le_of_ble_eq_true rfl), (Nat.le_of_ble_eq_true rfl)⟩ (fun u H locs hw hP hS _ _ => ?_)
  obtain ⟨M_1, eM_1⟩ : ∃ z, z = u := ⟨_, rfl⟩
  rw [← eM_1] at hP hw
  have gM_1 := hw
  have hv := bnd_name hv hw
  refine lv_aload_n hx hb dX5_begin_8 rfl (lv_at hl 0 rfl) ?_
  refine fg_X5_19 hx hb hts hK hP hown dX5_begin_9 ?_
  refine kVv hx hb hml hown hts hK hP hS hA (As := []) (rest := []) (c_X0_clear l dC dI cA ad hI M_1   ) (mkV hts q_196 q_49 q_193 q_194 q_195 hyX0_clear rfl rfl ⟨(Nat.le_of_ble_eq_true rfl), (Nat.le_of_ble_eq_true rfl)⟩) (w_recv hK hP (k := 2) (by decide) lyC2 (q := (RX0, TX0, 2)) rfl) rfl hl.1 rfl (Nat.le_of_ble_eq_true rfl) dX5_begin_12 ⟨(Nat.le_of_ble_eq_true rfl), (Nat.le_of_ble_eq_true rfl)⟩ (fun u H locs hw hP hS _ _ => ?_)
  obtain ⟨M_2, eM_2⟩ : ∃ z, z = u := ⟨_, rfl⟩
  rw [← eM_2] at hP hw
  have gM_2 := hw
  have hv := bnd_name hv hw
  refine lv_aload_n hx hb dX5_begin_15 rfl (lv_at hl 0 rfl) ?_
  refine lv_iconst (v := 0) hx hb dX5_begin_16 (by decide) ?_
  refine fp_X5_99 hx hb hts hK hP hI hS hA hown dX5_begin_17 (fun H locs hP hS => ?_)
  obtain ⟨M_3, eM_3⟩ : ∃ z : Mem, z = sI M_2 (0) (0 : Int32) := ⟨_, rfl⟩
  rw [← eM_3] at hP
  have hv := bnd_name hv eM_3
  refine lv_aload_n hx hb dX5_begin_20 rfl (lv_at hl 0 rfl) ?_
  refine lv_lconst (v := 0) hx hb dX5_begin_21 (by decide) ?_
  refine fp_X5_68 hx hb hts hK hP hI hS hA hown dX5_begin_22 (fun H locs hP hS => ?_)
  obtain ⟨M_4, eM_4⟩ : ∃ z : Mem, z = sL M_3 (0) (0 : Int64) := ⟨_, rfl⟩
  rw [← eM_4] at hP
  have hv := bnd_name hv eM_4
  refine lv_aload_n hx hb dX5_begin_25 rfl (lv_at hl 0 rfl) ?_
  refine lv_bipush (v := 16) hx hb dX5_begin_26 (by decide) ?_
  refine fp_X5_192 hx hb hts hK hP hI hS hA hown dX5_begin_28 (fun H locs hP hS => ?_)
  obtain ⟨M_5, eM_5⟩ : ∃ z : Mem, z = sI M_4 (1) (16 : Int32) := ⟨_, rfl⟩
  rw [← eM_5] at hP
  have hv := bnd_name hv eM_5
  refine lv_aload_n hx hb dX5_begin_31 rfl (lv_at hl 0 rfl) ?_
  refine lv_iconst (v := 0) hx hb dX5_begin_32 (by decide) ?_
  refine fp_X5_195 hx hb hts hK hP hI hS hA hown dX5_begin_33 (fun H locs hP hS => ?_)
  obtain ⟨M_6, eM_6⟩ : ∃ z : Mem, z = sI M_5 (2) (0 : Int32) := ⟨_, rfl⟩
  rw [← eM_6] at hP
  have hv := bnd_name hv eM_6
  refine lv_aload_n hx hb dX5_begin_36 rfl (lv_at hl 0 rfl) ?_
  refine lv_iconst (v := 0) hx hb dX5_begin_37 (by decide) ?_
  refine fp_X5_189 hx hb hts hK hP hI hS hA hown dX5_begin_38 (fun H locs hP hS => ?_)
  obtain ⟨M_7, eM_7⟩ : ∃ z : Mem, z = sI M_6 (3) (0 : Int32) := ⟨_, rfl⟩
  rw [← eM_7] at hP
  have hv := bnd_name hv eM_7
  refine lv_aload_n hx hb dX5_begin_41 rfl (lv_at hl 0 rfl) ?_
  refine lv_lconst (v := 0) hx hb dX5_begin_42 (by decide) ?_
  refine fp_X5_186 hx hb hts hK hP hI hS hA hown dX5_begin_43 (fun H locs hP hS => ?_)
  obtain ⟨M_8, eM_8⟩ : ∃ z : Mem, z = sL M_7 (1) (0 : Int64) := ⟨_, rfl⟩
  rw [← eM_8] at hP
  have hv := bnd_name hv eM_8
  exact W.vret hx hb hr (fun t ht hW => ⟨⟨M_8, rfl, hv.symm.trans eV, by rw [ht]; exact hP, va_K.moved hW.alike hK⟩, hS.F ht⟩) hS.2.2 dX5_begin_46
def f_X5_isBeyondLastTrueTime (M : Mem) (p0 : Int64) : Int32 := if (1000000000000 : Int64) < (gL M (0) + p0) then (1 : Int32) else (0 : Int32)
theorem hyX5_isBeyondLastTrueTime : yX5_isBeyondLastTrueTime.cls ≠ "java/lang/invoke/MethodHandle" ∧ yX5_isBeyondLastTrueTime.cls ≠ "java/lang/invoke/VarHandle" ∧ (parseMethodDescriptor yX5_isBeyondLastTrueTime.desc).map (fun d => d.parameters.length) = some 1 := by decide +kernel
set_option maxHeartbeats 4000000 in
set_option maxRecDepth 100000 in
theorem c_X5_isBeyondLastTrueTime (l : Launch) (dC : Nat → ClassId) (dI : Nat → Nat → Nat) (cA : Nat → ClassId) (ad : Nat → Nat) (hI : Inj 69 ad) (M : Mem) (p0 : Int64)  : Met l yX5_isBeyondLastTrueTime (.code yX5_isBeyondLastTrueTime cX5_isBeyondLastTrueTime 3 (some .boolean) :: AG) ({ frames := 0, cells := 0, slots := 0, locals := 0 } : Room) (va_Pc [.ref (ad (0)), .long p0] (PC dC dI cA ad M)) (va_Qi (fun r u => r = f_X5_isBeyondLastTrueTime M p0 ∧ u = M) (PC dC dI cA ad) (adS 69 ad)) 0 0 (adS 69 ad) := by
  refine cMet (by decide) (Nat.le_of_ble_eq_true rfl) ?_
  intro p e s m below meth c ls hx hb hr hml hlocks hown hts hK hP hS hl
  have hA : ∀ q, adS 69 ad q → adS 69 ad q := fun _ h => h
  have hl : lv_has ls 3 [(0, .ref (ad (0))), (1, .long p0)] := hl
  obtain ⟨V, eV⟩ : ∃ z, z = f_X5_isBeyondLastTrueTime M p0 := ⟨_, rfl⟩
  have hv := eV
  unfold f_X5_isBeyondLastTrueTime at hv
  refine lv_aload_n hx hb dX5_isBeyondLastTrueTime_0 rfl (lv_at hl 0 rfl) ?_
  refine fg_X5_68 hx hb hts hK hP hown dX5_isBeyondLastTrueTime_1 ?_
  refine lv_lload_n hx hb dX5_isBeyondLastTrueTime_4 rfl (lv_at hl 1 rfl) ?_
  refine lv_ladd hx hb dX5_isBeyondLastTrueTime_5 ?_
  refine lv_ldc2 (v := 1000000000000) hx hb hown (hts _ q_536) dX5_isBeyondLastTrueTime_6 ?_
  refine jL_le (tgt := 17) hx hb dX5_isBeyondLastTrueTime_9 dX5_isBeyondLastTrueTime_10 (by decide) (fun c_1 => ?_) (fun c_1 => ?_)
  · have hv := hv.trans (if_pos c_1)
    refine lv_iconst (v := 1) hx hb dX5_isBeyondLastTrueTime_13 (by decide) ?_
    refine lv_goto (tgt := 18) hx hb dX5_isBeyondLastTrueTime_14 (by decide) ?_
    exact W.zret (v := (1 : Int32)) hx hb hr rfl (fun t ht hW => ⟨⟨_, M, rfl, ⟨hv.symm.trans eV, rfl⟩, by rw [ht]; exact hP, va_K.moved hW.alike hK⟩, hS.F ht⟩) hS.2.2 dX5_isBeyondLastTrueTime_18
  · have hv := hv.trans (if_neg c_1)
    refine lv_iconst (v := 0) hx hb dX5_isBeyondLastTrueTime_17 (by decide) ?_
    exact W.zret (v := (0 : Int32)) hx hb hr rfl (fun t ht hW => ⟨⟨_, M, rfl, ⟨hv.symm.trans eV, rfl⟩, by rw [ht]; exact hP, va_K.moved hW.alike hK⟩, hS.F ht⟩) hS.2.2 dX5_isBeyondLastTrueTime_18
theorem f_X5_isBeyondLastTrueTime_b (M : Mem) (p0 : Int64) : (f_X5_isBeyondLastTrueTime M p0) = 0 ∨ (f_X5_isBeyondLastTrueTime M p0) = 1 := by
  unfold f_X5_isBeyondLastTrueTime
  repeat' (first | with_reducible refine bnd_or (fun _ => ?_) | with_reducible refine bnd2_or (fun _ _ => ?_) | with_reducible refine ite_or ?_ ?_ | exact Or.inl rfl | exact Or.inr rfl)
def f_X5_elapse (M : Mem) (p0 : Int32) : Mem := bnd (sL M (0) (gL M (0) + (p0).toInt64)) fun M_1 => bnd (f_X1_elapse M_1  p0) fun M_2 => M_2
theorem hyX5_elapse : yX5_elapse.cls ≠ "java/lang/invoke/MethodHandle" ∧ yX5_elapse.cls ≠ "java/lang/invoke/VarHandle" ∧ (parseMethodDescriptor yX5_elapse.desc).map (fun d => d.parameters.length) = some 1 := by decide +kernel
set_option maxHeartbeats 4000000 in
set_option maxRecDepth 100000 in
theorem c_X5_elapse (l : Launch) (dC : Nat → ClassId) (dI : Nat → Nat → Nat) (cA : Nat → ClassId) (ad : Nat → Nat) (hI : Inj 69 ad) (M : Mem) (p0 : Int32)  : Met l yX5_elapse (.code yX5_elapse cX5_elapse 2 none :: AG) ({ frames := 2, cells := 0, slots := 0, locals := 48 } : Room) (va_Pc [.ref (ad (0)), .int p0] (PC dC dI cA ad M)) (va_Qv (fun u => u = f_X5_elapse M p0) (PC dC dI cA ad) (adS 69 ad)) 0 0 (adS 69 ad) := by
  refine cMet (by decide) (Nat.le_of_ble_eq_true rfl) ?_
  intro p e s m below meth c ls hx hb hr hml hlocks hown hts hK hP hS hl
  have hA : ∀ q, adS 69 ad q → adS 69 ad q := fun _ h => h
  have hl : lv_has ls 2 [(0, .ref (ad (0))), (1, .int p0)] := hl
  obtain ⟨V, eV⟩ : ∃ z, z = f_X5_elapse M p0 := ⟨_, rfl⟩
  have hv := eV
  unfold f_X5_elapse at hv
  refine lv_aload_n hx hb dX5_elapse_0 rfl (lv_at hl 0 rfl) ?_
  refine lv_dup hx hb dX5_elapse_1 rfl ?_
  refine fg_X5_68 hx hb hts hK hP hown dX5_elapse_2 ?_
  refine lv_iload_n hx hb dX5_elapse_5 rfl (lv_at hl 1 rfl) ?_
  refine lv_i2l (v := (p0).toInt64) hx hb dX5_elapse_6 rfl ?_
  refine lv_ladd hx hb dX5_elapse_7 ?_
  refine fp_X5_68 hx hb hts hK hP hI hS hA hown dX5_elapse_8 (fun H locs hP hS => ?_)
  obtain ⟨M_1, eM_1⟩ : ∃ z : Mem, z = sL M (0) (gL M (0) + (p0).toInt64) := ⟨_, rfl⟩
  rw [← eM_1] at hP
  have hv := bnd_name hv eM_1
  refine lv_aload_n hx hb dX5_elapse_11 rfl (lv_at hl 0 rfl) ?_
  refine fg_X5_10 hx hb hts hK hP hown dX5_elapse_12 ?_
  refine lv_iload_n hx hb dX5_elapse_15 rfl (lv_at hl 1 rfl) ?_
  refine kVv hx hb hml hown hts hK hP hS hA (As := [.int p0]) (rest := []) (c_X1_elapse l dC dI cA ad hI M_1  p0 ) (mkV hts q_559 q_48 q_556 q_557 q_558 hyX1_elapse rfl rfl ⟨(Nat.le_of_ble_eq_true rfl), (Nat.le_of_ble_eq_true rfl)⟩) (w_recv hK hP (k := 1) (by decide) lyC1 (q := (RX1, TX1, 4)) rfl) rfl hl.1 rfl (Nat.le_of_ble_eq_true rfl) dX5_elapse_16 ⟨(Nat.le_of_ble_eq_true rfl), (Nat.le_of_ble_eq_true rfl)⟩ (fun u H locs hw hP hS _ _ => ?_)
  obtain ⟨M_2, eM_2⟩ : ∃ z, z = u := ⟨_, rfl⟩
  rw [← eM_2] at hP hw
  have gM_2 := hw
  have hv := bnd_name hv hw
  exact W.vret hx hb hr (fun t ht hW => ⟨⟨M_2, rfl, hv.symm.trans eV, by rw [ht]; exact hP, va_K.moved hW.alike hK⟩, hS.F ht⟩) hS.2.2 dX5_elapse_19
def f_X5_roomOrNull (M : Mem) (p0 : Int32) : Option Nat := if p0 < (0 : Int32) then none else if p0 < (8 : Int32) then some ((p0).toNatClampNeg) else none
theorem hyX5_roomOrNull : yX5_roomOrNull.cls ≠ "java/lang/invoke/MethodHandle" ∧ yX5_roomOrNull.cls ≠ "java/lang/invoke/VarHandle" ∧ (parseMethodDescriptor yX5_roomOrNull.desc).map (fun d => d.parameters.length) = some 1 := by decide +kernel
set_option maxHeartbeats 4000000 in
set_option maxRecDepth 100000 in
theorem c_X5_roomOrNull (l : Launch) (dC : Nat → ClassId) (dI : Nat → Nat → Nat) (cA : Nat → ClassId) (ad : Nat → Nat) (hI : Inj 69 ad) (M : Mem) (p0 : Int32)  : Met l yX5_roomOrNull (.code yX5_roomOrNull cX5_roomOrNull 2 (some (.object "Clockhouse$Server")) :: AG) ({ frames := 0, cells := 0, slots := 0, locals := 0 } : Room) (va_Pc [.ref (ad (0)), .int p0] (PC dC dI cA ad M)) (va_Qq (fun r u => r = (f_X5_roomOrNull M p0).map (fun k => ad (5 + k)) ∧ u = M) (PC dC dI cA ad) (adS 69 ad)) 0 0 (adS 69 ad) := by
  refine cMet (by decide) (Nat.le_of_ble_eq_true rfl) ?_
  intro p e s m below meth c ls hx hb hr hml hlocks hown hts hK hP hS hl
  have hA : ∀ q, adS 69 ad q → adS 69 ad q := fun _ h => h
  have hl : lv_has ls 2 [(0, .ref (ad (0))), (1, .int p0)] := hl
  obtain ⟨V, eV⟩ : ∃ z, z = f_X5_roomOrNull M p0 := ⟨_, rfl⟩
  have hv := eV
  unfold f_X5_roomOrNull at hv
  refine lv_iload_n hx hb dX5_roomOrNull_0 rfl (lv_at hl 1 rfl) ?_
  refine j0_lt (tgt := 22) hx hb dX5_roomOrNull_1 (by decide) (fun c_1 => ?_) (fun c_1 => ?_)
  · have hv := hv.trans (if_pos c_1)
    refine lv_null hx hb dX5_roomOrNull_22 ?_
    exact W.aret (v := .null) hx hb hr (Or.inl ⟨_, rfl⟩) (Or.inl rfl) (fun t ht hW => ⟨⟨none, M, rfl, ⟨by rw [← eV, hv]; rfl, rfl⟩, by rw [ht]; exact hP, va_K.moved hW.alike hK⟩, hS.F ht⟩) hS.2.2 dX5_roomOrNull_23
  · have hv := hv.trans (if_neg c_1)
    refine lv_iload_n hx hb dX5_roomOrNull_4 rfl (lv_at hl 1 rfl) ?_
    refine lv_aload_n hx hb dX5_roomOrNull_5 rfl (lv_at hl 0 rfl) ?_
    refine fg_X5_25 hx hb hts hK hP hown dX5_roomOrNull_6 ?_
    refine w_alen hx hb hK hP (k := 3) (by decide) lyC3 (Or.inr rfl) (v := 8) rfl dX5_roomOrNull_9 ?_
    refine jI_ge (tgt := 22) hx hb dX5_roomOrNull_10 (by decide) (fun c_2 => ?_) (fun c_2 => ?_)
    · have hv := hv.trans (if_pos c_2)
      refine lv_aload_n hx hb dX5_roomOrNull_13 rfl (lv_at hl 0 rfl) ?_
      refine fg_X5_25 hx hb hts hK hP hown dX5_roomOrNull_14 ?_
      refine lv_iload_n hx hb dX5_roomOrNull_17 rfl (lv_at hl 1 rfl) ?_
      have hin := (vp_of c_1 c_2 (by decide))
      have hin8 := vp_lt hin
      refine w_ald hx hb hK hP (k := 3) (by decide) lyC3 hin dX5_roomOrNull_18 ?_
      refine lv_goto (tgt := 23) hx hb dX5_roomOrNull_19 (by decide) ?_
      exact W.aret (v := .ref (ad (5 + (p0).toNatClampNeg))) hx hb hr (Or.inl ⟨_, rfl⟩) (Or.inr ⟨_, rfl⟩) (fun t ht hW => ⟨⟨some (ad (5 + (p0).toNatClampNeg)), M, rfl, ⟨by rw [← eV, hv]; rfl, rfl⟩, by rw [ht]; exact hP, va_K.moved hW.alike hK⟩, hS.F ht⟩) hS.2.2 dX5_roomOrNull_23
    · have hv := hv.trans (if_neg c_2)
      refine lv_null hx hb dX5_roomOrNull_22 ?_
      exact W.aret (v := .null) hx hb hr (Or.inl ⟨_, rfl⟩) (Or.inl rfl) (fun t ht hW => ⟨⟨none, M, rfl, ⟨by rw [← eV, hv]; rfl, rfl⟩, by rw [ht]; exact hP, va_K.moved hW.alike hK⟩, hS.F ht⟩) hS.2.2 dX5_roomOrNull_23
theorem f_X5_roomOrNull_lt {M : Mem} {p0 : Int32} {k : Nat} (h : f_X5_roomOrNull M p0 = some k) : k < 8 := by
  unfold f_X5_roomOrNull at h
  by_cases c1 : p0 < 0
  · rw [if_pos c1] at h; cases h
  · rw [if_neg c1] at h
    by_cases c2 : p0 < 8
    · rw [if_pos c2] at h
      cases h
      exact vp_lt (vp_of c1 c2 (by decide))
    · rw [if_neg c2] at h; cases h
def f_X5_serverOrNull (M : Mem) (p0 : Int32) : Option Nat := if p0 < gI M (0) then opt (f_X5_roomOrNull M  p0) (none) (fun k_2 => some (k_2)) else none
theorem hyX5_serverOrNull : yX5_serverOrNull.cls ≠ "java/lang/invoke/MethodHandle" ∧ yX5_serverOrNull.cls ≠ "java/lang/invoke/VarHandle" ∧ (parseMethodDescriptor yX5_serverOrNull.desc).map (fun d => d.parameters.length) = some 1 := by decide +kernel
set_option maxHeartbeats 4000000 in
set_option maxRecDepth 100000 in
theorem c_X5_serverOrNull (l : Launch) (dC : Nat → ClassId) (dI : Nat → Nat → Nat) (cA : Nat → ClassId) (ad : Nat → Nat) (hI : Inj 69 ad) (M : Mem) (p0 : Int32)  : Met l yX5_serverOrNull (.code yX5_serverOrNull cX5_serverOrNull 2 (some (.object "Clockhouse$Server")) :: AG) ({ frames := 1, cells := 0, slots := 0, locals := 21 } : Room) (va_Pc [.ref (ad (0)), .int p0] (PC dC dI cA ad M)) (va_Qq (fun r u => r = (f_X5_serverOrNull M p0).map (fun k => ad (5 + k)) ∧ u = M) (PC dC dI cA ad) (adS 69 ad)) 0 0 (adS 69 ad) := by
  refine cMet (by decide) (Nat.le_of_ble_eq_true rfl) ?_
  intro p e s m below meth c ls hx hb hr hml hlocks hown hts hK hP hS hl
  have hA : ∀ q, adS 69 ad q → adS 69 ad q := fun _ h => h
  have hl : lv_has ls 2 [(0, .ref (ad (0))), (1, .int p0)] := hl
  obtain ⟨V, eV⟩ : ∃ z, z = f_X5_serverOrNull M p0 := ⟨_, rfl⟩
  have hv := eV
  unfold f_X5_serverOrNull at hv
  refine lv_iload_n hx hb dX5_serverOrNull_0 rfl (lv_at hl 1 rfl) ?_
  refine lv_aload_n hx hb dX5_serverOrNull_1 rfl (lv_at hl 0 rfl) ?_
  refine fg_X5_99 hx hb hts hK hP hown dX5_serverOrNull_2 ?_
  refine jI_ge (tgt := 16) hx hb dX5_serverOrNull_5 (by decide) (fun c_1 => ?_) (fun c_1 => ?_)
  · have hv := hv.trans (if_pos c_1)
    refine lv_aload_n hx hb dX5_serverOrNull_8 rfl (lv_at hl 0 rfl) ?_
    refine lv_iload_n hx hb dX5_serverOrNull_9 rfl (lv_at hl 1 rfl) ?_
    refine kVq hx hb hml hown hts hK hP hS hA (As := [.int p0]) (rest := []) (c_X5_roomOrNull l dC dI cA ad hI M  p0 ) (mkV hts q_307 q_47 q_304 q_306 q_3 hyX5_roomOrNull rfl rfl ⟨(Nat.le_of_ble_eq_true rfl), (Nat.le_of_ble_eq_true rfl)⟩) (w_recv hK hP (k := 0) (by decide) lyC0 (q := (RX5, TX5, 10)) rfl) rfl hl.1 rfl (Nat.le_of_ble_eq_true rfl) dX5_serverOrNull_10 ⟨(Nat.le_of_ble_eq_true rfl), (Nat.le_of_ble_eq_true rfl)⟩ (fun r u H locs hw hP hS _ _ => ?_)
    obtain ⟨hw, hu⟩ := hw
    rw [hu] at hP
    rcases ho : f_X5_roomOrNull M  p0 with _ | k_2
    · have hv := hv.trans (opt_none ho)
      have e9 : r = none := by rw [hw, ho]; rfl
      subst e9
      refine w_rn ?_
      refine lv_goto (tgt := 17) hx hb dX5_serverOrNull_13 (by decide) ?_
      exact W.aret (v := .null) hx hb hr (Or.inl ⟨_, rfl⟩) (Or.inl rfl) (fun t ht hW => ⟨⟨none, M, rfl, ⟨by rw [← eV, hv]; rfl, rfl⟩, by rw [ht]; exact hP, va_K.moved hW.alike hK⟩, hS.F ht⟩) hS.2.2 dX5_serverOrNull_17
    · have hv := hv.trans (opt_some ho)
      have e9 : r = some (ad (5 + k_2)) := by rw [hw, ho]; rfl
      subst e9
      refine w_rf ?_
      have hk_2 : k_2 < 8 := f_X5_roomOrNull_lt ho
      refine lv_goto (tgt := 17) hx hb dX5_serverOrNull_13 (by decide) ?_
      exact W.aret (v := .ref (ad (5 + k_2))) hx hb hr (Or.inl ⟨_, rfl⟩) (Or.inr ⟨_, rfl⟩) (fun t ht hW => ⟨⟨some (ad (5 + k_2)), M, rfl, ⟨by rw [← eV, hv]; rfl, rfl⟩, by rw [ht]; exact hP, va_K.moved hW.alike hK⟩, hS.F ht⟩) hS.2.2 dX5_serverOrNull_17
  · have hv := hv.trans (if_neg c_1)
    refine lv_null hx hb dX5_serverOrNull_16 ?_
    exact W.aret (v := .null) hx hb hr (Or.inl ⟨_, rfl⟩) (Or.inl rfl) (fun t ht hW => ⟨⟨none, M, rfl, ⟨by rw [← eV, hv]; rfl, rfl⟩, by rw [ht]; exact hP, va_K.moved hW.alike hK⟩, hS.F ht⟩) hS.2.2 dX5_serverOrNull_17
theorem f_X5_serverOrNull_lt {M : Mem} {p0 : Int32} {k : Nat} (h : f_X5_serverOrNull M p0 = some k) : k < 8 := by
  unfold f_X5_serverOrNull at h
  split at h
  · cases ho : f_X5_roomOrNull M p0 with
    | none => rw [ho] at h; cases h
    | some j =>
      rw [ho] at h
      have e : j = k := Option.some.inj h
      rw [← e]
      exact f_X5_roomOrNull_lt ho
  · cases h
def f_X5_takeSample (M : Mem) (k0 : Nat) (p1 : Int32) (p2 : Int32) (p3 : Int32) : Int64 × Mem := bnd (f_X1_reading M  ) fun r_1 => bnd (f_X5_elapse M  p1) fun M_2 => bnd (f_X4_readingAt M_2 (k0) (gL M_2 (0))) fun r_3 => bnd (f_X5_elapse M_2  p2) fun M_4 => bnd (f_X4_readingAt M_4 (k0) (gL M_4 (0))) fun r_5 => bnd (f_X5_elapse M_4  p3) fun M_6 => bnd (f_X1_reading M_6  ) fun r_7 => bnd ((f_J9_floorDiv_f86c9 ((r_3 - r_1) + (r_5 - r_7)) (2 : Int64))) fun x_8 => bnd ((if ((r_7 - r_1) - (r_5 - r_3)) < (0 : Int64) then (0 : Int64) else ((r_7 - r_1) - (r_5 - r_3)))) fun x_9 => bnd (f_X4_keep M_6 (k0) x_8 x_9 r_7) fun M_10 => (x_9, M_10)
theorem hyX5_takeSample : yX5_takeSample.cls ≠ "java/lang/invoke/MethodHandle" ∧ yX5_takeSample.cls ≠ "java/lang/invoke/VarHandle" ∧ (parseMethodDescriptor yX5_takeSample.desc).map (fun d => d.parameters.length) = some 4 := by decide +kernel
set_option maxHeartbeats 4000000 in
set_option maxRecDepth 100000 in
theorem c_X5_takeSample (l : Launch) (dC : Nat → ClassId) (dI : Nat → Nat → Nat) (cA : Nat → ClassId) (ad : Nat → Nat) (hI : Inj 69 ad) (M : Mem) (k0 : Nat) (hk0 : k0 < 8) (p1 : Int32) (p2 : Int32) (p3 : Int32)  : Met l yX5_takeSample (.code yX5_takeSample cX5_takeSample 17 (some .long) :: AG) ({ frames := 3, cells := 0, slots := 0, locals := 72 } : Room) (va_Pc [.ref (ad (0)), .ref (ad (5 + k0)), .int p1, .int p2, .int p3] (PC dC dI cA ad M)) (va_Ql (fun r u => (r, u) = f_X5_takeSample M k0 p1 p2 p3) (PC dC dI cA ad) (adS 69 ad)) 0 0 (adS 69 ad) := by
  refine cMet (by decide) (Nat.le_of_ble_eq_true rfl) ?_
  intro p e s m below meth c ls hx hb hr hml hlocks hown hts hK hP hS hl
  have hA : ∀ q, adS 69 ad q → adS 69 ad q := fun _ h => h
  have hl : lv_has ls 17 [(0, .ref (ad (0))), (1, .ref (ad (5 + k0))), (2, .int p1), (3, .int p2), (4, .int p3)] := hl
  obtain ⟨V, eV⟩ : ∃ z, z = f_X5_takeSample M k0 p1 p2 p3 := ⟨_, rfl⟩
  have hv := eV
  unfold f_X5_takeSample at hv
  refine lv_aload_n hx hb dX5_takeSample_0 rfl (lv_at hl 0 rfl) ?_
  refine fg_X5_10 hx hb hts hK hP hown dX5_takeSample_1 ?_
  refine kVl hx hb hml hown hts hK hP hS hA (As := []) (rest := []) (c_X1_reading l dC dI cA ad hI M   ) (mkV hts q_239 q_48 q_236 q_237 q_238 hyX1_reading rfl rfl ⟨(Nat.le_of_ble_eq_true rfl), (Nat.le_of_ble_eq_true rfl)⟩) (w_recv hK hP (k := 1) (by decide) lyC1 (q := (RX1, TX1, 4)) rfl) rfl hl.1 rfl (Nat.le_of_ble_eq_true rfl) dX5_takeSample_4 ⟨(Nat.le_of_ble_eq_true rfl), (Nat.le_of_ble_eq_true rfl)⟩ (fun r u H locs hw hP hS _ _ => ?_)
  obtain ⟨hw, hu⟩ := hw
  rw [hu] at hP
  have hv := bnd_name hv hw
  obtain ⟨r_1, er_1⟩ : ∃ z, z = r := ⟨_, rfl⟩
  rw [← er_1] at hv hw
  refine w_eql er_1.symm ?_
  have gr_1 := hw
  refine lv_lstore (lv' := [(5, .long r_1), (0, .ref (ad (0))), (1, .ref (ad (5 + k0))), (2, .int p1), (3, .int p2), (4, .int p3)]) hx hb dX5_takeSample_7 hl (by decide) rfl (fun ls hl => ?_)
  refine lv_aload_n hx hb dX5_takeSample_9 rfl (lv_at hl 1 rfl) ?_
  refine lv_iload_n hx hb dX5_takeSample_10 rfl (lv_at hl 3 rfl) ?_
  refine kVv hx hb hml hown hts hK hP hS hA (As := [.int p1]) (rest := []) (c_X5_elapse l dC dI cA ad hI M  p1 ) (mkV hts q_555 q_47 q_552 q_554 q_13 hyX5_elapse rfl rfl ⟨(Nat.le_of_ble_eq_true rfl), (Nat.le_of_ble_eq_true rfl)⟩) (w_recv hK hP (k := 0) (by decide) lyC0 (q := (RX5, TX5, 10)) rfl) rfl hl.1 rfl (Nat.le_of_ble_eq_true rfl) dX5_takeSample_11 ⟨(Nat.le_of_ble_eq_true rfl), (Nat.le_of_ble_eq_true rfl)⟩ (fun u H locs hw hP hS _ _ => ?_)
  obtain ⟨M_2, eM_2⟩ : ∃ z, z = u := ⟨_, rfl⟩
  rw [← eM_2] at hP hw
  have gM_2 := hw
  have hv := bnd_name hv hw
  refine lv_aload_n hx hb dX5_takeSample_14 rfl (lv_at hl 2 rfl) ?_
  refine lv_aload_n hx hb dX5_takeSample_15 rfl (lv_at hl 1 rfl) ?_
  refine fg_X5_68 hx hb hts hK hP hown dX5_takeSample_16 ?_
  refine kVl hx hb hml hown hts hK hP hS hA (As := [.long (gL M_2 (0))]) (rest := []) (c_X4_readingAt l dC dI cA ad hI M_2 (k0) (by omega) (gL M_2 (0)) ) (mkV hts q_661 q_52 q_658 q_659 q_660 hyX4_readingAt rfl rfl ⟨(Nat.le_of_ble_eq_true rfl), (Nat.le_of_ble_eq_true rfl)⟩) (w_recv hK hP (k := 5 + k0) (by omega) (lyCs (k := k0) (by omega)) (q := (RX4, TX4, 9)) rfl) rfl hl.1 rfl (Nat.le_of_ble_eq_true rfl) dX5_takeSample_19 ⟨(Nat.le_of_ble_eq_true rfl), (Nat.le_of_ble_eq_true rfl)⟩ (fun r u H locs hw hP hS _ _ => ?_)
  obtain ⟨hw, hu⟩ := hw
  rw [hu] at hP
  have hv := bnd_name hv hw
  obtain ⟨r_3, er_3⟩ : ∃ z, z = r := ⟨_, rfl⟩
  rw [← er_3] at hv hw
  refine w_eql er_3.symm ?_
  have gr_3 := hw
  refine lv_lstore (lv' := [(7, .long r_3), (5, .long r_1), (0, .ref (ad (0))), (1, .ref (ad (5 + k0))), (2, .int p1), (3, .int p2), (4, .int p3)]) hx hb dX5_takeSample_22 hl (by decide) rfl (fun ls hl => ?_)
  refine lv_aload_n hx hb dX5_takeSample_24 rfl (lv_at hl 2 rfl) ?_
  refine lv_iload_n hx hb dX5_takeSample_25 rfl (lv_at hl 5 rfl) ?_
  refine kVv hx hb hml hown hts hK hP hS hA (As := [.int p2]) (rest := []) (c_X5_elapse l dC dI cA ad hI M_2  p2 ) (mkV hts q_555 q_47 q_552 q_554 q_13 hyX5_elapse rfl rfl ⟨(Nat.le_of_ble_eq_true rfl), (Nat.le_of_ble_eq_true rfl)⟩) (w_recv hK hP (k := 0) (by decide) lyC0 (q := (RX5, TX5, 10)) rfl) rfl hl.1 rfl (Nat.le_of_ble_eq_true rfl) dX5_takeSample_26 ⟨(Nat.le_of_ble_eq_true rfl), (Nat.le_of_ble_eq_true rfl)⟩ (fun u H locs hw hP hS _ _ => ?_)
  obtain ⟨M_4, eM_4⟩ : ∃ z, z = u := ⟨_, rfl⟩
  rw [← eM_4] at hP hw
  have gM_4 := hw
  have hv := bnd_name hv hw
  refine lv_aload_n hx hb dX5_takeSample_29 rfl (lv_at hl 3 rfl) ?_
  refine lv_aload_n hx hb dX5_takeSample_30 rfl (lv_at hl 2 rfl) ?_
  refine fg_X5_68 hx hb hts hK hP hown dX5_takeSample_31 ?_
  refine kVl hx hb hml hown hts hK hP hS hA (As := [.long (gL M_4 (0))]) (rest := []) (c_X4_readingAt l dC dI cA ad hI M_4 (k0) (by omega) (gL M_4 (0)) ) (mkV hts q_661 q_52 q_658 q_659 q_660 hyX4_readingAt rfl rfl ⟨(Nat.le_of_ble_eq_true rfl), (Nat.le_of_ble_eq_true rfl)⟩) (w_recv hK hP (k := 5 + k0) (by omega) (lyCs (k := k0) (by omega)) (q := (RX4, TX4, 9)) rfl) rfl hl.1 rfl (Nat.le_of_ble_eq_true rfl) dX5_takeSample_34 ⟨(Nat.le_of_ble_eq_true rfl), (Nat.le_of_ble_eq_true rfl)⟩ (fun r u H locs hw hP hS _ _ => ?_)
  obtain ⟨hw, hu⟩ := hw
  rw [hu] at hP
  have hv := bnd_name hv hw
  obtain ⟨r_5, er_5⟩ : ∃ z, z = r := ⟨_, rfl⟩
  rw [← er_5] at hv hw
  refine w_eql er_5.symm ?_
  have gr_5 := hw
  refine lv_lstore (lv' := [(9, .long r_5), (7, .long r_3), (5, .long r_1), (0, .ref (ad (0))), (1, .ref (ad (5 + k0))), (2, .int p1), (3, .int p2), (4, .int p3)]) hx hb dX5_takeSample_37 hl (by decide) rfl (fun ls hl => ?_)
  refine lv_aload_n hx hb dX5_takeSample_39 rfl (lv_at hl 3 rfl) ?_
  refine lv_iload hx hb dX5_takeSample_40 (lv_at hl 7 rfl) ?_
  refine kVv hx hb hml hown hts hK hP hS hA (As := [.int p3]) (rest := []) (c_X5_elapse l dC dI cA ad hI M_4  p3 ) (mkV hts q_555 q_47 q_552 q_554 q_13 hyX5_elapse rfl rfl ⟨(Nat.le_of_ble_eq_true rfl), (Nat.le_of_ble_eq_true rfl)⟩) (w_recv hK hP (k := 0) (by decide) lyC0 (q := (RX5, TX5, 10)) rfl) rfl hl.1 rfl (Nat.le_of_ble_eq_true rfl) dX5_takeSample_42 ⟨(Nat.le_of_ble_eq_true rfl), (Nat.le_of_ble_eq_true rfl)⟩ (fun u H locs hw hP hS _ _ => ?_)
  obtain ⟨M_6, eM_6⟩ : ∃ z, z = u := ⟨_, rfl⟩
  rw [← eM_6] at hP hw
  have gM_6 := hw
  have hv := bnd_name hv hw
  refine lv_aload_n hx hb dX5_takeSample_45 rfl (lv_at hl 3 rfl) ?_
  refine fg_X5_10 hx hb hts hK hP hown dX5_takeSample_46 ?_
  refine kVl hx hb hml hown hts hK hP hS hA (As := []) (rest := []) (c_X1_reading l dC dI cA ad hI M_6   ) (mkV hts q_239 q_48 q_236 q_237 q_238 hyX1_reading rfl rfl ⟨(Nat.le_of_ble_eq_true rfl), (Nat.le_of_ble_eq_true rfl)⟩) (w_recv hK hP (k := 1) (by decide) lyC1 (q := (RX1, TX1, 4)) rfl) rfl hl.1 rfl (Nat.le_of_ble_eq_true rfl) dX5_takeSample_49 ⟨(Nat.le_of_ble_eq_true rfl), (Nat.le_of_ble_eq_true rfl)⟩ (fun r u H locs hw hP hS _ _ => ?_)
  obtain ⟨hw, hu⟩ := hw
  rw [hu] at hP
  have hv := bnd_name hv hw
  obtain ⟨r_7, er_7⟩ : ∃ z, z = r := ⟨_, rfl⟩
  rw [← er_7] at hv hw
  refine w_eql er_7.symm ?_
  have gr_7 := hw
  refine lv_lstore (lv' := [(11, .long r_7), (9, .long r_5), (7, .long r_3), (5, .long r_1), (0, .ref (ad (0))), (1, .ref (ad (5 + k0))), (2, .int p1), (3, .int p2), (4, .int p3)]) hx hb dX5_takeSample_52 hl (by decide) rfl (fun ls hl => ?_)
  refine lv_lload hx hb dX5_takeSample_54 (lv_at hl 2 rfl) ?_
  refine lv_lload hx hb dX5_takeSample_56 (lv_at hl 3 rfl) ?_
  refine lv_lsub hx hb dX5_takeSample_58 ?_
  refine lv_lload hx hb dX5_takeSample_59 (lv_at hl 1 rfl) ?_
  refine lv_lload hx hb dX5_takeSample_61 (lv_at hl 0 rfl) ?_
  refine lv_lsub hx hb dX5_takeSample_63 ?_
  refine lv_ladd hx hb dX5_takeSample_64 ?_
  refine lv_ldc2 (v := 2) hx hb hown (hts _ q_662) dX5_takeSample_65 ?_
  refine kSl hx hb hml hown hts (As := [.long ((r_3 - r_1) + (r_5 - r_7)), .long (2 : Int64)]) (rest := []) (c_J9_floorDiv_f86c9 l ((r_3 - r_1) + (r_5 - r_7)) (2 : Int64) (by decide)) (mkS hts q_242 q_59 q_663 q_241 hyJ9_floorDiv_f86c9 rfl rfl ⟨(Nat.le_of_ble_eq_true rfl), (Nat.le_of_ble_eq_true rfl)⟩) rfl hl.1 rfl (Nat.le_of_ble_eq_true rfl) dX5_takeSample_68 ⟨(Nat.le_of_ble_eq_true rfl), (Nat.le_of_ble_eq_true rfl)⟩ ?_
  refine lv_topl (fun x_8 ex_8 => ?_)
  have hv := bnd_name hv ex_8
  refine lv_lstore (lv' := [(13, .long x_8), (11, .long r_7), (9, .long r_5), (7, .long r_3), (5, .long r_1), (0, .ref (ad (0))), (1, .ref (ad (5 + k0))), (2, .int p1), (3, .int p2), (4, .int p3)]) hx hb dX5_takeSample_71 hl (by decide) rfl (fun ls hl => ?_)
  refine lv_lconst (v := 0) hx hb dX5_takeSample_73 (by decide) ?_
  refine lv_lload hx hb dX5_takeSample_74 (lv_at hl 1 rfl) ?_
  refine lv_lload hx hb dX5_takeSample_76 (lv_at hl 4 rfl) ?_
  refine lv_lsub hx hb dX5_takeSample_78 ?_
  refine lv_lload hx hb dX5_takeSample_79 (lv_at hl 2 rfl) ?_
  refine lv_lload hx hb dX5_takeSample_81 (lv_at hl 3 rfl) ?_
  refine lv_lsub hx hb dX5_takeSample_83 ?_
  refine lv_lsub hx hb dX5_takeSample_84 ?_
  refine va_mmax_long hx hb (hml.trans hl.1.symm) hown (hts _ q_664) (hts _ q_565) (hts _ q_59) (hts _ q_566) (Nat.le_of_ble_eq_true rfl) (Nat.le_of_ble_eq_true rfl) (Nat.le_of_ble_eq_true rfl) (Nat.le_of_ble_eq_true rfl) dX5_takeSample_85 ?_
  refine lv_topl (fun x_9 ex_9 => ?_)
  have hv := bnd_name hv ex_9
  refine lv_lstore (lv' := [(15, .long x_9), (13, .long x_8), (11, .long r_7), (9, .long r_5), (7, .long r_3), (5, .long r_1), (0, .ref (ad (0))), (1, .ref (ad (5 + k0))), (2, .int p1), (3, .int p2), (4, .int p3)]) hx hb dX5_takeSample_88 hl (by decide) rfl (fun ls hl => ?_)
  refine lv_aload_n hx hb dX5_takeSample_90 rfl (lv_at hl 7 rfl) ?_
  refine lv_lload hx hb dX5_takeSample_91 (lv_at hl 1 rfl) ?_
  refine lv_lload hx hb dX5_takeSample_93 (lv_at hl 0 rfl) ?_
  refine lv_lload hx hb dX5_takeSample_95 (lv_at hl 2 rfl) ?_
  refine kVv hx hb hml hown hts hK hP hS hA (As := [.long x_8, .long x_9, .long r_7]) (rest := []) (c_X4_keep l dC dI cA ad hI M_6 (k0) (by omega) x_8 x_9 r_7 ) (mkV hts q_668 q_52 q_665 q_666 q_667 hyX4_keep rfl rfl ⟨(Nat.le_of_ble_eq_true rfl), (Nat.le_of_ble_eq_true rfl)⟩) (w_recv hK hP (k := 5 + k0) (by omega) (lyCs (k := k0) (by omega)) (q := (RX4, TX4, 9)) rfl) rfl hl.1 rfl (Nat.le_of_ble_eq_true rfl) dX5_takeSample_97 ⟨(Nat.le_of_ble_eq_true rfl), (Nat.le_of_ble_eq_true rfl)⟩ (fun u H locs hw hP hS _ _ => ?_)
  obtain ⟨M_10, eM_10⟩ : ∃ z, z = u := ⟨_, rfl⟩
  rw [← eM_10] at hP hw
  have gM_10 := hw
  have hv := bnd_name hv hw
  refine lv_lload hx hb dX5_takeSample_100 (lv_at hl 0 rfl) ?_
  exact W.lret (v := x_9) hx hb hr (fun t ht hW => ⟨⟨_, M_10, rfl, hv.symm.trans eV, by rw [ht]; exact hP, va_K.moved hW.alike hK⟩, hS.F ht⟩) hS.2.2 dX5_takeSample_102
def f_X5_select_L17 (r_1 : Int64) : Nat → Nat → Mem → Mem
  | 0, _, M_17 => M_17
  | r + 1, i, M_17 => if nI i < gI M_17 (0) then if nI i < (8 : Int32) then opt (f_X5_serverOrNull M_17  (nI i)) (f_X5_select_L17  r_1 r (i + 1) M_17 ) (fun k_5 => bnd (f_X4_kept M_17 (k_5) ) fun r_6 => if (0 : Int32) < r_6 then bnd (f_X3_enter M_17  (nI i) (k_5) r_1) fun M_8 => f_X5_select_L17  r_1 r (i + 1) M_8  else f_X5_select_L17  r_1 r (i + 1) M_17 ) else bnd (f_X3_intersect M_17  ) fun M_9 => bnd (f_X3_cluster M_9  ) fun M_10 => M_10 else bnd (f_X3_intersect M_17  ) fun M_11 => bnd (f_X3_cluster M_11  ) fun M_12 => M_12
def f_X5_select (M : Mem)  : Mem := bnd (f_X1_reading M  ) fun r_1 => bnd (f_X3_clear M  ) fun M_2 => f_X5_select_L17  r_1 (8 + 1 - 0) 0 M_2 
theorem hyX5_select : yX5_select.cls ≠ "java/lang/invoke/MethodHandle" ∧ yX5_select.cls ≠ "java/lang/invoke/VarHandle" ∧ (parseMethodDescriptor yX5_select.desc).map (fun d => d.parameters.length) = some 0 := by decide +kernel
set_option maxHeartbeats 4000000 in
set_option maxRecDepth 100000 in
theorem c_X5_select (l : Launch) (dC : Nat → ClassId) (dI : Nat → Nat → Nat) (cA : Nat → ClassId) (ad : Nat → Nat) (hI : Inj 69 ad) (M : Mem)   : Met l yX5_select (.code yX5_select cX5_select 5 none :: AG) ({ frames := 4, cells := 0, slots := 0, locals := 96 } : Room) (va_Pc [.ref (ad (0))] (PC dC dI cA ad M)) (va_Qv (fun u => u = f_X5_select M ) (PC dC dI cA ad) (adS 69 ad)) 0 0 (adS 69 ad) := by
  refine cMet (by decide) (Nat.le_of_ble_eq_true rfl) ?_
  intro p e s m below meth c ls hx hb hr hml hlocks hown hts hK hP hS hl
  have hA : ∀ q, adS 69 ad q → adS 69 ad q := fun _ h => h
  have hl : lv_has ls 5 [(0, .ref (ad (0)))] := hl
  obtain ⟨V, eV⟩ : ∃ z, z = f_X5_select M  := ⟨_, rfl⟩
  have hv := eV
  unfold f_X5_select at hv
  refine lv_aload_n hx hb dX5_select_0 rfl (lv_at hl 0 rfl) ?_
  refine fg_X5_10 hx hb hts hK hP hown dX5_select_1 ?_
  refine kVl hx hb hml hown hts hK hP hS hA (As := []) (rest := []) (c_X1_reading l dC dI cA ad hI M   ) (mkV hts q_239 q_48 q_236 q_237 q_238 hyX1_reading rfl rfl ⟨(Nat.le_of_ble_eq_true rfl), (Nat.le_of_ble_eq_true rfl)⟩) (w_recv hK hP (k := 1) (by decide) lyC1 (q := (RX1, TX1, 4)) rfl) rfl hl.1 rfl (Nat.le_of_ble_eq_true rfl) dX5_select_4 ⟨(Nat.le_of_ble_eq_true rfl), (Nat.le_of_ble_eq_true rfl)⟩ (fun r u H locs hw hP hS _ _ => ?_)
  obtain ⟨hw, hu⟩ := hw
  rw [hu] at hP
  have hv := bnd_name hv hw
  obtain ⟨r_1, er_1⟩ : ∃ z, z = r := ⟨_, rfl⟩
  rw [← er_1] at hv hw
  refine w_eql er_1.symm ?_
  have gr_1 := hw
  refine lv_lstore_n (lv' := [(1, .long r_1), (0, .ref (ad (0)))]) hx hb dX5_select_7 rfl hl (by decide) rfl (fun ls hl => ?_)
  refine lv_aload_n hx hb dX5_select_8 rfl (lv_at hl 1 rfl) ?_
  refine fg_X5_32 hx hb hts hK hP hown dX5_select_9 ?_
  refine kVv hx hb hml hown hts hK hP hS hA (As := []) (rest := []) (c_X3_clear l dC dI cA ad hI M   ) (mkV hts q_299 q_50 q_296 q_297 q_298 hyX3_clear rfl rfl ⟨(Nat.le_of_ble_eq_true rfl), (Nat.le_of_ble_eq_true rfl)⟩) (w_recv hK hP (k := 4) (by decide) lyC4 (q := (RX3, TX3, 9)) rfl) rfl hl.1 rfl (Nat.le_of_ble_eq_true rfl) dX5_select_12 ⟨(Nat.le_of_ble_eq_true rfl), (Nat.le_of_ble_eq_true rfl)⟩ (fun u H locs hw hP hS _ _ => ?_)
  obtain ⟨M_2, eM_2⟩ : ∃ z, z = u := ⟨_, rfl⟩
  rw [← eM_2] at hP hw
  have gM_2 := hw
  have hv := bnd_name hv hw
  refine lv_iconst (v := 0) hx hb dX5_select_15 (by decide) ?_
  refine lv_istore_n (lv' := [(3, .int (0 : Int32)), (1, .long r_1), (0, .ref (ad (0)))]) hx hb dX5_select_16 rfl hl (by decide) rfl (fun ls hl => ?_)
  have L17 : ∀ (r i : Nat) (M_17 : Mem) (H : Heap) (locs : List Loc) (ls : Array Slot), i + r = 8 + 1 → i ≤ 8 → V = f_X5_select_L17  r_1 r i M_17  → va_P (dC, dI) vwCl (wld 69 layC cA ad M_17) H → va_S (adS 69 ad) s.heap H locs → lv_has ls 5 [(3, .int (nI i)), (1, .long r_1), (0, .ref (ad (0)))] → W p l e ({ frames := 4, cells := 0, slots := 0, locals := 96 } : Room) s m ([.ref (ad (0))] : List Value).toArray below meth c H locs 0 0 (MQ below (va_Qv (fun u => u = f_X5_select M ) (PC dC dI cA ad) (adS 69 ad)) ([.ref (ad (0))] : List Value).toArray s 0 0 (adS 69 ad)) (F0 m 17 ls []) := by
    intro r
    induction r with
    | zero =>
      intro i M_17 H locs ls hir hib
      omega
    | succ r ih =>
      intro i M_17 H locs ls hir hib hv hP hS hl
      rw [f_X5_select_L17] at hv
      refine lv_iload_n hx hb dX5_select_17 rfl (lv_at hl 0 rfl) ?_
      refine lv_aload_n hx hb dX5_select_18 rfl (lv_at hl 2 rfl) ?_
      refine fg_X5_99 hx hb hts hK hP hown dX5_select_19 ?_
      refine jI_ge (tgt := 68) hx hb dX5_select_22 (by decide) (fun c_3 => ?_) (fun c_3 => ?_)
      · have hv := hv.trans (if_pos c_3)
        have hc_3 : i < (gI M_17 (0)).toNatClampNeg := nI_lt1 c_3 (by have := cn_lt (gI M_17 (0)); omega)
        refine lv_iload_n hx hb dX5_select_25 rfl (lv_at hl 0 rfl) ?_
        refine lv_bipush (v := 8) hx hb dX5_select_26 (by decide) ?_
        refine jI_ge (tgt := 68) hx hb dX5_select_28 (by decide) (fun c_4 => ?_) (fun c_4 => ?_)
        · have hv := hv.trans (if_pos c_4)
          have hc_4 : i < 8 := nI_lt8 (n := 8) c_4 (by omega) (by decide)
          refine lv_aload_n hx hb dX5_select_31 rfl (lv_at hl 2 rfl) ?_
          refine lv_iload_n hx hb dX5_select_32 rfl (lv_at hl 0 rfl) ?_
          refine kVq hx hb hml hown hts hK hP hS hA (As := [.int (nI i)]) (rest := []) (c_X5_serverOrNull l dC dI cA ad hI M_17  (nI i) ) (mkV hts q_303 q_47 q_300 q_302 q_2 hyX5_serverOrNull rfl rfl ⟨(Nat.le_of_ble_eq_true rfl), (Nat.le_of_ble_eq_true rfl)⟩) (w_recv hK hP (k := 0) (by decide) lyC0 (q := (RX5, TX5, 10)) rfl) rfl hl.1 rfl (Nat.le_of_ble_eq_true rfl) dX5_select_33 ⟨(Nat.le_of_ble_eq_true rfl), (Nat.le_of_ble_eq_true rfl)⟩ (fun r u H locs hw hP hS _ _ => ?_)
          obtain ⟨hw, hu⟩ := hw
          rw [hu] at hP
          rcases ho : f_X5_serverOrNull M_17  (nI i) with _ | k_5
          · have hv := hv.trans (opt_none ho)
            have e9 : r = none := by rw [hw, ho]; rfl
            subst e9
            refine w_rn ?_
            refine lv_astoreN (lv' := [(4, .null), (3, .int (nI i)), (1, .long r_1), (0, .ref (ad (0)))]) hx hb dX5_select_36 hl (by decide) rfl (fun ls hl => ?_)
            refine lv_aloadN hx hb dX5_select_38 (lv_at hl 0 rfl) ?_
            refine lv_ifnullN (tgt := 62) hx hb dX5_select_40 (by decide) ?_
            refine lv_iinc (v := nI (i + 1)) (lv' := [(3, .int (nI (i + 1))), (4, .null), (1, .long r_1), (0, .ref (ad (0)))]) hx hb dX5_select_62 hl (k := 1) rfl (show nI (i) + 1 = nI (i + 1) from nI_1 _) (by decide) rfl (fun ls hl => ?_)
            refine lv_goto (tgt := 17) hx hb dX5_select_65 (by decide) ?_
            exact ih (i + 1)  M_17 _ _ _ (by omega) (by omega)  hv hP hS (lv_sub hl [0, 2, 3] rfl)
          · have hv := hv.trans (opt_some ho)
            have e9 : r = some (ad (5 + k_5)) := by rw [hw, ho]; rfl
            subst e9
            refine w_rf ?_
            have hk_5 : k_5 < 8 := f_X5_serverOrNull_lt ho
            refine lv_astore (lv' := [(4, .ref (ad (5 + k_5))), (3, .int (nI i)), (1, .long r_1), (0, .ref (ad (0)))]) hx hb dX5_select_36 hl (by decide) rfl (fun ls hl => ?_)
            refine lv_aload hx hb dX5_select_38 (lv_at hl 0 rfl) ?_
            refine lv_ifnull hx hb dX5_select_40 ?_
            refine lv_aload hx hb dX5_select_43 (lv_at hl 0 rfl) ?_
            refine kVi hx hb hml hown hts hK hP hS hA (As := []) (rest := []) (c_X4_kept l dC dI cA ad hI M_17 (k_5) (by omega)  ) (mkV hts q_311 q_52 q_308 q_309 q_310 hyX4_kept rfl rfl ⟨(Nat.le_of_ble_eq_true rfl), (Nat.le_of_ble_eq_true rfl)⟩) (w_recv hK hP (k := 5 + k_5) (by omega) (lyCs (k := k_5) (by omega)) (q := (RX4, TX4, 9)) rfl) rfl hl.1 rfl (Nat.le_of_ble_eq_true rfl) dX5_select_45 ⟨(Nat.le_of_ble_eq_true rfl), (Nat.le_of_ble_eq_true rfl)⟩ (fun r u H locs hw hP hS _ _ => ?_)
            obtain ⟨hw, hu⟩ := hw
            rw [hu] at hP
            have hv := bnd_name hv hw
            obtain ⟨r_6, er_6⟩ : ∃ z, z = r := ⟨_, rfl⟩
            rw [← er_6] at hv hw
            refine w_eqi er_6.symm ?_
            have gr_6 := hw
            refine j0_le (tgt := 62) hx hb dX5_select_48 (by decide) (fun c_7 => ?_) (fun c_7 => ?_)
            · have hv := hv.trans (if_pos c_7)
              refine lv_aload_n hx hb dX5_select_51 rfl (lv_at hl 3 rfl) ?_
              refine fg_X5_32 hx hb hts hK hP hown dX5_select_52 ?_
              refine lv_iload_n hx hb dX5_select_55 rfl (lv_at hl 1 rfl) ?_
              refine lv_aload hx hb dX5_select_56 (lv_at hl 0 rfl) ?_
              refine lv_lload_n hx hb dX5_select_58 rfl (lv_at hl 2 rfl) ?_
              refine kVv hx hb hml hown hts hK hP hS hA (As := [.int (nI i), .ref (ad (5 + k_5)), .long r_1]) (rest := []) (c_X3_enter l dC dI cA ad hI M_17  (nI i) (k_5) (by omega) r_1 ) (mkV hts q_315 q_50 q_312 q_313 q_314 hyX3_enter rfl rfl ⟨(Nat.le_of_ble_eq_true rfl), (Nat.le_of_ble_eq_true rfl)⟩) (w_recv hK hP (k := 4) (by decide) lyC4 (q := (RX3, TX3, 9)) rfl) rfl hl.1 rfl (Nat.le_of_ble_eq_true rfl) dX5_select_59 ⟨(Nat.le_of_ble_eq_true rfl), (Nat.le_of_ble_eq_true rfl)⟩ (fun u H locs hw hP hS _ _ => ?_)
              obtain ⟨M_8, eM_8⟩ : ∃ z, z = u := ⟨_, rfl⟩
              rw [← eM_8] at hP hw
              have gM_8 := hw
              have hv := bnd_name hv hw
              refine lv_iinc (v := nI (i + 1)) (lv' := [(3, .int (nI (i + 1))), (4, .ref (ad (5 + k_5))), (1, .long r_1), (0, .ref (ad (0)))]) hx hb dX5_select_62 hl (k := 1) rfl (show nI (i) + 1 = nI (i + 1) from nI_1 _) (by decide) rfl (fun ls hl => ?_)
              refine lv_goto (tgt := 17) hx hb dX5_select_65 (by decide) ?_
              exact ih (i + 1)  M_8 _ _ _ (by omega) (by omega)  hv hP hS (lv_sub hl [0, 2, 3] rfl)
            · have hv := hv.trans (if_neg c_7)
              refine lv_iinc (v := nI (i + 1)) (lv' := [(3, .int (nI (i + 1))), (4, .ref (ad (5 + k_5))), (1, .long r_1), (0, .ref (ad (0)))]) hx hb dX5_select_62 hl (k := 1) rfl (show nI (i) + 1 = nI (i + 1) from nI_1 _) (by decide) rfl (fun ls hl => ?_)
              refine lv_goto (tgt := 17) hx hb dX5_select_65 (by decide) ?_
              exact ih (i + 1)  M_17 _ _ _ (by omega) (by omega)  hv hP hS (lv_sub hl [0, 2, 3] rfl)
        · have hv := hv.trans (if_neg c_4)
          have hc_4 : ¬ i < 8 := fun h => c_4 (nI_lt h (by decide))
          refine lv_aload_n hx hb dX5_select_68 rfl (lv_at hl 2 rfl) ?_
          refine fg_X5_32 hx hb hts hK hP hown dX5_select_69 ?_
          refine kVv hx hb hml hown hts hK hP hS hA (As := []) (rest := []) (c_X3_intersect l dC dI cA ad hI M_17   ) (mkV hts q_355 q_50 q_352 q_353 q_354 hyX3_intersect rfl rfl ⟨(Nat.le_of_ble_eq_true rfl), (Nat.le_of_ble_eq_true rfl)⟩) (w_recv hK hP (k := 4) (by decide) lyC4 (q := (RX3, TX3, 9)) rfl) rfl hl.1 rfl (Nat.le_of_ble_eq_true rfl) dX5_select_72 ⟨(Nat.le_of_ble_eq_true rfl), (Nat.le_of_ble_eq_true rfl)⟩ (fun u H locs hw hP hS _ _ => ?_)
          obtain ⟨M_9, eM_9⟩ : ∃ z, z = u := ⟨_, rfl⟩
          rw [← eM_9] at hP hw
          have gM_9 := hw
          have hv := bnd_name hv hw
          refine lv_aload_n hx hb dX5_select_75 rfl (lv_at hl 2 rfl) ?_
          refine fg_X5_32 hx hb hts hK hP hown dX5_select_76 ?_
          refine kVv hx hb hml hown hts hK hP hS hA (As := []) (rest := []) (c_X3_cluster l dC dI cA ad hI M_9   ) (mkV hts q_382 q_50 q_379 q_380 q_381 hyX3_cluster rfl rfl ⟨(Nat.le_of_ble_eq_true rfl), (Nat.le_of_ble_eq_true rfl)⟩) (w_recv hK hP (k := 4) (by decide) lyC4 (q := (RX3, TX3, 9)) rfl) rfl hl.1 rfl (Nat.le_of_ble_eq_true rfl) dX5_select_79 ⟨(Nat.le_of_ble_eq_true rfl), (Nat.le_of_ble_eq_true rfl)⟩ (fun u H locs hw hP hS _ _ => ?_)
          obtain ⟨M_10, eM_10⟩ : ∃ z, z = u := ⟨_, rfl⟩
          rw [← eM_10] at hP hw
          have gM_10 := hw
          have hv := bnd_name hv hw
          exact W.vret hx hb hr (fun t ht hW => ⟨⟨M_10, rfl, hv.symm.trans eV, by rw [ht]; exact hP, va_K.moved hW.alike hK⟩, hS.F ht⟩) hS.2.2 dX5_select_82
      · have hv := hv.trans (if_neg c_3)
        refine lv_aload_n hx hb dX5_select_68 rfl (lv_at hl 2 rfl) ?_
        refine fg_X5_32 hx hb hts hK hP hown dX5_select_69 ?_
        refine kVv hx hb hml hown hts hK hP hS hA (As := []) (rest := []) (c_X3_intersect l dC dI cA ad hI M_17   ) (mkV hts q_355 q_50 q_352 q_353 q_354 hyX3_intersect rfl rfl ⟨(Nat.le_of_ble_eq_true rfl), (Nat.le_of_ble_eq_true rfl)⟩) (w_recv hK hP (k := 4) (by decide) lyC4 (q := (RX3, TX3, 9)) rfl) rfl hl.1 rfl (Nat.le_of_ble_eq_true rfl) dX5_select_72 ⟨(Nat.le_of_ble_eq_true rfl), (Nat.le_of_ble_eq_true rfl)⟩ (fun u H locs hw hP hS _ _ => ?_)
        obtain ⟨M_11, eM_11⟩ : ∃ z, z = u := ⟨_, rfl⟩
        rw [← eM_11] at hP hw
        have gM_11 := hw
        have hv := bnd_name hv hw
        refine lv_aload_n hx hb dX5_select_75 rfl (lv_at hl 2 rfl) ?_
        refine fg_X5_32 hx hb hts hK hP hown dX5_select_76 ?_
        refine kVv hx hb hml hown hts hK hP hS hA (As := []) (rest := []) (c_X3_cluster l dC dI cA ad hI M_11   ) (mkV hts q_382 q_50 q_379 q_380 q_381 hyX3_cluster rfl rfl ⟨(Nat.le_of_ble_eq_true rfl), (Nat.le_of_ble_eq_true rfl)⟩) (w_recv hK hP (k := 4) (by decide) lyC4 (q := (RX3, TX3, 9)) rfl) rfl hl.1 rfl (Nat.le_of_ble_eq_true rfl) dX5_select_79 ⟨(Nat.le_of_ble_eq_true rfl), (Nat.le_of_ble_eq_true rfl)⟩ (fun u H locs hw hP hS _ _ => ?_)
        obtain ⟨M_12, eM_12⟩ : ∃ z, z = u := ⟨_, rfl⟩
        rw [← eM_12] at hP hw
        have gM_12 := hw
        have hv := bnd_name hv hw
        exact W.vret hx hb hr (fun t ht hW => ⟨⟨M_12, rfl, hv.symm.trans eV, by rw [ht]; exact hP, va_K.moved hW.alike hK⟩, hS.F ht⟩) hS.2.2 dX5_select_82
  exact L17 (8 + 1 - 0) 0  M_2 _ _ _ (by omega) (by omega)  hv hP hS (lv_sub hl [0, 1, 2] rfl)
def f_X5_correctRate (M : Mem) (p0 : Int64) : Mem := bnd (f_X1_reading M  ) fun r_1 => bnd ((r_1 - gL M (1))) fun x_2 => if (0 : Int32) < gI M (3) then if (0 : Int64) < x_2 then bnd (((p0 * (1000000 : Int64)) / x_2)) fun x_5 => bnd (f_X1_addCorrection M  (x_5 / (4 : Int64))) fun M_6 => M_6 else M else M
theorem hyX5_correctRate : yX5_correctRate.cls ≠ "java/lang/invoke/MethodHandle" ∧ yX5_correctRate.cls ≠ "java/lang/invoke/VarHandle" ∧ (parseMethodDescriptor yX5_correctRate.desc).map (fun d => d.parameters.length) = some 1 := by decide +kernel
set_option maxHeartbeats 4000000 in
set_option maxRecDepth 100000 in
theorem c_X5_correctRate (l : Launch) (dC : Nat → ClassId) (dI : Nat → Nat → Nat) (cA : Nat → ClassId) (ad : Nat → Nat) (hI : Inj 69 ad) (M : Mem) (p0 : Int64)  : Met l yX5_correctRate (.code yX5_correctRate cX5_correctRate 7 none :: AG) ({ frames := 2, cells := 0, slots := 0, locals := 47 } : Room) (va_Pc [.ref (ad (0)), .long p0] (PC dC dI cA ad M)) (va_Qv (fun u => u = f_X5_correctRate M p0) (PC dC dI cA ad) (adS 69 ad)) 0 0 (adS 69 ad) := by
  refine cMet (by decide) (Nat.le_of_ble_eq_true rfl) ?_
  intro p e s m below meth c ls hx hb hr hml hlocks hown hts hK hP hS hl
  have hA : ∀ q, adS 69 ad q → adS 69 ad q := fun _ h => h
  have hl : lv_has ls 7 [(0, .ref (ad (0))), (1, .long p0)] := hl
  obtain ⟨V, eV⟩ : ∃ z, z = f_X5_correctRate M p0 := ⟨_, rfl⟩
  have hv := eV
  unfold f_X5_correctRate at hv
  refine lv_aload_n hx hb dX5_correctRate_0 rfl (lv_at hl 0 rfl) ?_
  refine fg_X5_10 hx hb hts hK hP hown dX5_correctRate_1 ?_
  refine kVl hx hb hml hown hts hK hP hS hA (As := []) (rest := []) (c_X1_reading l dC dI cA ad hI M   ) (mkV hts q_239 q_48 q_236 q_237 q_238 hyX1_reading rfl rfl ⟨(Nat.le_of_ble_eq_true rfl), (Nat.le_of_ble_eq_true rfl)⟩) (w_recv hK hP (k := 1) (by decide) lyC1 (q := (RX1, TX1, 4)) rfl) rfl hl.1 rfl (Nat.le_of_ble_eq_true rfl) dX5_correctRate_4 ⟨(Nat.le_of_ble_eq_true rfl), (Nat.le_of_ble_eq_true rfl)⟩ (fun r u H locs hw hP hS _ _ => ?_)
  obtain ⟨hw, hu⟩ := hw
  rw [hu] at hP
  have hv := bnd_name hv hw
  obtain ⟨r_1, er_1⟩ : ∃ z, z = r := ⟨_, rfl⟩
  rw [← er_1] at hv hw
  refine w_eql er_1.symm ?_
  have gr_1 := hw
  refine lv_aload_n hx hb dX5_correctRate_7 rfl (lv_at hl 0 rfl) ?_
  refine fg_X5_186 hx hb hts hK hP hown dX5_correctRate_8 ?_
  refine lv_lsub hx hb dX5_correctRate_11 ?_
  refine lv_topl (fun x_2 ex_2 => ?_)
  have hv := bnd_name hv ex_2
  refine lv_lstore_n (lv' := [(3, .long x_2), (0, .ref (ad (0))), (1, .long p0)]) hx hb dX5_correctRate_12 rfl hl (by decide) rfl (fun ls hl => ?_)
  refine lv_aload_n hx hb dX5_correctRate_13 rfl (lv_at hl 1 rfl) ?_
  refine fg_X5_189 hx hb hts hK hP hown dX5_correctRate_14 ?_
  refine j0_le (tgt := 48) hx hb dX5_correctRate_17 (by decide) (fun c_3 => ?_) (fun c_3 => ?_)
  · have hv := hv.trans (if_pos c_3)
    refine lv_lload_n hx hb dX5_correctRate_20 rfl (lv_at hl 0 rfl) ?_
    refine lv_lconst (v := 0) hx hb dX5_correctRate_21 (by decide) ?_
    refine jL_le (tgt := 48) hx hb dX5_correctRate_22 dX5_correctRate_23 (by decide) (fun c_4 => ?_) (fun c_4 => ?_)
    · have hv := hv.trans (if_pos c_4)
      refine lv_lload_n hx hb dX5_correctRate_26 rfl (lv_at hl 2 rfl) ?_
      refine lv_ldc2 (v := 1000000) hx hb hown (hts _ q_784) dX5_correctRate_27 ?_
      refine lv_lmul hx hb dX5_correctRate_30 ?_
      refine lv_lload_n hx hb dX5_correctRate_31 rfl (lv_at hl 0 rfl) ?_
      refine lv_ldiv hx hb dX5_correctRate_32 (pd_ne c_4) ?_
      refine lv_topl (fun x_5 ex_5 => ?_)
      have hv := bnd_name hv ex_5
      refine lv_lstore (lv' := [(5, .long x_5), (3, .long x_2), (0, .ref (ad (0))), (1, .long p0)]) hx hb dX5_correctRate_33 hl (by decide) rfl (fun ls hl => ?_)
      refine lv_aload_n hx hb dX5_correctRate_35 rfl (lv_at hl 2 rfl) ?_
      refine fg_X5_10 hx hb hts hK hP hown dX5_correctRate_36 ?_
      refine lv_lload hx hb dX5_correctRate_39 (lv_at hl 0 rfl) ?_
      refine lv_ldc2 (v := 4) hx hb hown (hts _ q_785) dX5_correctRate_41 ?_
      refine lv_ldiv hx hb dX5_correctRate_44 (by decide) ?_
      refine kVv hx hb hml hown hts hK hP hS hA (As := [.long (x_5 / (4 : Int64))]) (rest := []) (c_X1_addCorrection l dC dI cA ad hI M  (x_5 / (4 : Int64)) ) (mkV hts q_789 q_48 q_786 q_787 q_788 hyX1_addCorrection rfl rfl ⟨(Nat.le_of_ble_eq_true rfl), (Nat.le_of_ble_eq_true rfl)⟩) (w_recv hK hP (k := 1) (by decide) lyC1 (q := (RX1, TX1, 4)) rfl) rfl hl.1 rfl (Nat.le_of_ble_eq_true rfl) dX5_correctRate_45 ⟨(Nat.le_of_ble_eq_true rfl), (Nat.le_of_ble_eq_true rfl)⟩ (fun u H locs hw hP hS _ _ => ?_)
      obtain ⟨M_6, eM_6⟩ : ∃ z, z = u := ⟨_, rfl⟩
      rw [← eM_6] at hP hw
      have gM_6 := hw
      have hv := bnd_name hv hw
      exact W.vret hx hb hr (fun t ht hW => ⟨⟨M_6, rfl, hv.symm.trans eV, by rw [ht]; exact hP, va_K.moved hW.alike hK⟩, hS.F ht⟩) hS.2.2 dX5_correctRate_48
    · have hv := hv.trans (if_neg c_4)
      exact W.vret hx hb hr (fun t ht hW => ⟨⟨M, rfl, hv.symm.trans eV, by rw [ht]; exact hP, va_K.moved hW.alike hK⟩, hS.F ht⟩) hS.2.2 dX5_correctRate_48
  · have hv := hv.trans (if_neg c_3)
    exact W.vret hx hb hr (fun t ht hW => ⟨⟨M, rfl, hv.symm.trans eV, by rw [ht]; exact hP, va_K.moved hW.alike hK⟩, hS.F ht⟩) hS.2.2 dX5_correctRate_48
def f_X5_correctTime (M : Mem) (p0 : Int64) : Int32 × Mem := if (128000 : Int64) < p0 then bnd (f_X1_step M  p0) fun M_2 => bnd (sI M_2 (2) (gI M_2 (2) + (1 : Int32))) fun M_3 => ((1 : Int32), M_3) else bnd (f_X1_slew M  p0) fun M_4 => ((0 : Int32), M_4)
theorem hyX5_correctTime : yX5_correctTime.cls ≠ "java/lang/invoke/MethodHandle" ∧ yX5_correctTime.cls ≠ "java/lang/invoke/VarHandle" ∧ (parseMethodDescriptor yX5_correctTime.desc).map (fun d => d.parameters.length) = some 1 := by decide +kernel
set_option maxHeartbeats 4000000 in
set_option maxRecDepth 100000 in
theorem c_X5_correctTime (l : Launch) (dC : Nat → ClassId) (dI : Nat → Nat → Nat) (cA : Nat → ClassId) (ad : Nat → Nat) (hI : Inj 69 ad) (M : Mem) (p0 : Int64)  : Met l yX5_correctTime (.code yX5_correctTime cX5_correctTime 3 (some .int) :: AG) ({ frames := 1, cells := 0, slots := 0, locals := 22 } : Room) (va_Pc [.ref (ad (0)), .long p0] (PC dC dI cA ad M)) (va_Qi (fun r u => (r, u) = f_X5_correctTime M p0) (PC dC dI cA ad) (adS 69 ad)) 0 0 (adS 69 ad) := by
  refine cMet (by decide) (Nat.le_of_ble_eq_true rfl) ?_
  intro p e s m below meth c ls hx hb hr hml hlocks hown hts hK hP hS hl
  have hA : ∀ q, adS 69 ad q → adS 69 ad q := fun _ h => h
  have hl : lv_has ls 3 [(0, .ref (ad (0))), (1, .long p0)] := hl
  obtain ⟨V, eV⟩ : ∃ z, z = f_X5_correctTime M p0 := ⟨_, rfl⟩
  have hv := eV
  unfold f_X5_correctTime at hv
  refine lv_lload_n hx hb dX5_correctTime_0 rfl (lv_at hl 1 rfl) ?_
  refine lv_ldc2 (v := 128000) hx hb hown (hts _ q_795) dX5_correctTime_1 ?_
  refine jL_le (tgt := 28) hx hb dX5_correctTime_4 dX5_correctTime_5 (by decide) (fun c_1 => ?_) (fun c_1 => ?_)
  · have hv := hv.trans (if_pos c_1)
    refine lv_aload_n hx hb dX5_correctTime_8 rfl (lv_at hl 0 rfl) ?_
    refine fg_X5_10 hx hb hts hK hP hown dX5_correctTime_9 ?_
    refine lv_lload_n hx hb dX5_correctTime_12 rfl (lv_at hl 1 rfl) ?_
    refine kVv hx hb hml hown hts hK hP hS hA (As := [.long p0]) (rest := []) (c_X1_step l dC dI cA ad hI M  p0 ) (mkV hts q_799 q_48 q_796 q_797 q_798 hyX1_step rfl rfl ⟨(Nat.le_of_ble_eq_true rfl), (Nat.le_of_ble_eq_true rfl)⟩) (w_recv hK hP (k := 1) (by decide) lyC1 (q := (RX1, TX1, 4)) rfl) rfl hl.1 rfl (Nat.le_of_ble_eq_true rfl) dX5_correctTime_13 ⟨(Nat.le_of_ble_eq_true rfl), (Nat.le_of_ble_eq_true rfl)⟩ (fun u H locs hw hP hS _ _ => ?_)
    obtain ⟨M_2, eM_2⟩ : ∃ z, z = u := ⟨_, rfl⟩
    rw [← eM_2] at hP hw
    have gM_2 := hw
    have hv := bnd_name hv hw
    refine lv_aload_n hx hb dX5_correctTime_16 rfl (lv_at hl 0 rfl) ?_
    refine lv_dup hx hb dX5_correctTime_17 rfl ?_
    refine fg_X5_195 hx hb hts hK hP hown dX5_correctTime_18 ?_
    refine lv_iconst (v := 1) hx hb dX5_correctTime_21 (by decide) ?_
    refine lv_iadd hx hb dX5_correctTime_22 ?_
    refine fp_X5_195 hx hb hts hK hP hI hS hA hown dX5_correctTime_23 (fun H locs hP hS => ?_)
    obtain ⟨M_3, eM_3⟩ : ∃ z : Mem, z = sI M_2 (2) (gI M_2 (2) + (1 : Int32)) := ⟨_, rfl⟩
    rw [← eM_3] at hP
    have hv := bnd_name hv eM_3
    refine lv_iconst (v := 1) hx hb dX5_correctTime_26 (by decide) ?_
    exact W.iret (v := (1 : Int32)) hx hb hr (fun t ht hW => ⟨⟨_, M_3, rfl, hv.symm.trans eV, by rw [ht]; exact hP, va_K.moved hW.alike hK⟩, hS.F ht⟩) hS.2.2 dX5_correctTime_27
  · have hv := hv.trans (if_neg c_1)
    refine lv_aload_n hx hb dX5_correctTime_28 rfl (lv_at hl 0 rfl) ?_
    refine fg_X5_10 hx hb hts hK hP hown dX5_correctTime_29 ?_
    refine lv_lload_n hx hb dX5_correctTime_32 rfl (lv_at hl 1 rfl) ?_
    refine kVv hx hb hml hown hts hK hP hS hA (As := [.long p0]) (rest := []) (c_X1_slew l dC dI cA ad hI M  p0 ) (mkV hts q_803 q_48 q_800 q_801 q_802 hyX1_slew rfl rfl ⟨(Nat.le_of_ble_eq_true rfl), (Nat.le_of_ble_eq_true rfl)⟩) (w_recv hK hP (k := 1) (by decide) lyC1 (q := (RX1, TX1, 4)) rfl) rfl hl.1 rfl (Nat.le_of_ble_eq_true rfl) dX5_correctTime_33 ⟨(Nat.le_of_ble_eq_true rfl), (Nat.le_of_ble_eq_true rfl)⟩ (fun u H locs hw hP hS _ _ => ?_)
    obtain ⟨M_4, eM_4⟩ : ∃ z, z = u := ⟨_, rfl⟩
    rw [← eM_4] at hP hw
    have gM_4 := hw
    have hv := bnd_name hv hw
    refine lv_iconst (v := 0) hx hb dX5_correctTime_36 (by decide) ?_
    exact W.iret (v := (0 : Int32)) hx hb hr (fun t ht hW => ⟨⟨_, M_4, rfl, hv.symm.trans eV, by rw [ht]; exact hP, va_K.moved hW.alike hK⟩, hS.F ht⟩) hS.2.2 dX5_correctTime_37
def f_X5_takeStratumOfPeer (M : Mem)  : Mem := bnd (f_X5_select M  ) fun M_1 => bnd (f_X3_preferred M_1  ) fun r_2 => opt (f_X5_serverOrNull M_1  r_2) (M_1) (fun k_3 => bnd (f_X4_ownStratum M_1 (k_3) ) fun r_4 => bnd (sI M_1 (1) (r_4 + (1 : Int32))) fun M_5 => M_5)
theorem hyX5_takeStratumOfPeer : yX5_takeStratumOfPeer.cls ≠ "java/lang/invoke/MethodHandle" ∧ yX5_takeStratumOfPeer.cls ≠ "java/lang/invoke/VarHandle" ∧ (parseMethodDescriptor yX5_takeStratumOfPeer.desc).map (fun d => d.parameters.length) = some 0 := by decide +kernel
set_option maxHeartbeats 4000000 in
set_option maxRecDepth 100000 in
theorem c_X5_takeStratumOfPeer (l : Launch) (dC : Nat → ClassId) (dI : Nat → Nat → Nat) (cA : Nat → ClassId) (ad : Nat → Nat) (hI : Inj 69 ad) (M : Mem)   : Met l yX5_takeStratumOfPeer (.code yX5_takeStratumOfPeer cX5_takeStratumOfPeer 2 none :: AG) ({ frames := 5, cells := 0, slots := 0, locals := 120 } : Room) (va_Pc [.ref (ad (0))] (PC dC dI cA ad M)) (va_Qv (fun u => u = f_X5_takeStratumOfPeer M ) (PC dC dI cA ad) (adS 69 ad)) 0 0 (adS 69 ad) := by
  refine cMet (by decide) (Nat.le_of_ble_eq_true rfl) ?_
  intro p e s m below meth c ls hx hb hr hml hlocks hown hts hK hP hS hl
  have hA : ∀ q, adS 69 ad q → adS 69 ad q := fun _ h => h
  have hl : lv_has ls 2 [(0, .ref (ad (0)))] := hl
  obtain ⟨V, eV⟩ : ∃ z, z = f_X5_takeStratumOfPeer M  := ⟨_, rfl⟩
  have hv := eV
  unfold f_X5_takeStratumOfPeer at hv
  refine lv_aload_n hx hb dX5_takeStratumOfPeer_0 rfl (lv_at hl 0 rfl) ?_
  refine kVv hx hb hml hown hts hK hP hS hA (As := []) (rest := []) (c_X5_select l dC dI cA ad hI M   ) (mkV hts q_295 q_47 q_292 q_294 q_1 hyX5_select rfl rfl ⟨(Nat.le_of_ble_eq_true rfl), (Nat.le_of_ble_eq_true rfl)⟩) (w_recv hK hP (k := 0) (by decide) lyC0 (q := (RX5, TX5, 10)) rfl) rfl hl.1 rfl (Nat.le_of_ble_eq_true rfl) dX5_takeStratumOfPeer_1 ⟨(Nat.le_of_ble_eq_true rfl), (Nat.le_of_ble_eq_true rfl)⟩ (fun u H locs hw hP hS _ _ => ?_)
  obtain ⟨M_1, eM_1⟩ : ∃ z, z = u := ⟨_, rfl⟩
  rw [← eM_1] at hP hw
  have gM_1 := hw
  have hv := bnd_name hv hw
  refine lv_aload_n hx hb dX5_takeStratumOfPeer_4 rfl (lv_at hl 0 rfl) ?_
  refine lv_aload_n hx hb dX5_takeStratumOfPeer_5 rfl (lv_at hl 0 rfl) ?_
  refine fg_X5_32 hx hb hts hK hP hown dX5_takeStratumOfPeer_6 ?_
  refine kVi hx hb hml hown hts hK hP hS hA (As := []) (rest := [.ref (ad (0))]) (c_X3_preferred l dC dI cA ad hI M_1   ) (mkV hts q_431 q_50 q_428 q_429 q_430 hyX3_preferred rfl rfl ⟨(Nat.le_of_ble_eq_true rfl), (Nat.le_of_ble_eq_true rfl)⟩) (w_recv hK hP (k := 4) (by decide) lyC4 (q := (RX3, TX3, 9)) rfl) rfl hl.1 rfl (Nat.le_of_ble_eq_true rfl) dX5_takeStratumOfPeer_9 ⟨(Nat.le_of_ble_eq_true rfl), (Nat.le_of_ble_eq_true rfl)⟩ (fun r u H locs hw hP hS _ _ => ?_)
  obtain ⟨hw, hu⟩ := hw
  rw [hu] at hP
  have hv := bnd_name hv hw
  obtain ⟨r_2, er_2⟩ : ∃ z, z = r := ⟨_, rfl⟩
  rw [← er_2] at hv hw
  refine w_eqi er_2.symm ?_
  have gr_2 := hw
  refine kVq hx hb hml hown hts hK hP hS hA (As := [.int r_2]) (rest := []) (c_X5_serverOrNull l dC dI cA ad hI M_1  r_2 ) (mkV hts q_303 q_47 q_300 q_302 q_2 hyX5_serverOrNull rfl rfl ⟨(Nat.le_of_ble_eq_true rfl), (Nat.le_of_ble_eq_true rfl)⟩) (w_recv hK hP (k := 0) (by decide) lyC0 (q := (RX5, TX5, 10)) rfl) rfl hl.1 rfl (Nat.le_of_ble_eq_true rfl) dX5_takeStratumOfPeer_12 ⟨(Nat.le_of_ble_eq_true rfl), (Nat.le_of_ble_eq_true rfl)⟩ (fun r u H locs hw hP hS _ _ => ?_)
  obtain ⟨hw, hu⟩ := hw
  rw [hu] at hP
  rcases ho : f_X5_serverOrNull M_1  r_2 with _ | k_3
  · have hv := hv.trans (opt_none ho)
    have e9 : r = none := by rw [hw, ho]; rfl
    subst e9
    refine w_rn ?_
    refine lv_astore_nN (lv' := [(1, .null), (0, .ref (ad (0)))]) hx hb dX5_takeStratumOfPeer_15 rfl hl (by decide) rfl (fun ls hl => ?_)
    refine lv_aload_nN hx hb dX5_takeStratumOfPeer_16 rfl (lv_at hl 0 rfl) ?_
    refine lv_ifnullN (tgt := 30) hx hb dX5_takeStratumOfPeer_17 (by decide) ?_
    exact W.vret hx hb hr (fun t ht hW => ⟨⟨M_1, rfl, hv.symm.trans eV, by rw [ht]; exact hP, va_K.moved hW.alike hK⟩, hS.F ht⟩) hS.2.2 dX5_takeStratumOfPeer_30
  · have hv := hv.trans (opt_some ho)
    have e9 : r = some (ad (5 + k_3)) := by rw [hw, ho]; rfl
    subst e9
    refine w_rf ?_
    have hk_3 : k_3 < 8 := f_X5_serverOrNull_lt ho
    refine lv_astore_n (lv' := [(1, .ref (ad (5 + k_3))), (0, .ref (ad (0)))]) hx hb dX5_takeStratumOfPeer_15 rfl hl (by decide) rfl (fun ls hl => ?_)
    refine lv_aload_n hx hb dX5_takeStratumOfPeer_16 rfl (lv_at hl 0 rfl) ?_
    refine lv_ifnull hx hb dX5_takeStratumOfPeer_17 ?_
    refine lv_aload_n hx hb dX5_takeStratumOfPeer_20 rfl (lv_at hl 1 rfl) ?_
    refine lv_aload_n hx hb dX5_takeStratumOfPeer_21 rfl (lv_at hl 0 rfl) ?_
    refine kVi hx hb hml hown hts hK hP hS hA (As := []) (rest := [.ref (ad (0))]) (c_X4_ownStratum l dC dI cA ad hI M_1 (k_3) (by omega)  ) (mkV hts q_351 q_52 q_808 q_349 q_350 hyX4_ownStratum rfl rfl ⟨(Nat.le_of_ble_eq_true rfl), (Nat.le_of_ble_eq_true rfl)⟩) (w_recv hK hP (k := 5 + k_3) (by omega) (lyCs (k := k_3) (by omega)) (q := (RX4, TX4, 9)) rfl) rfl hl.1 rfl (Nat.le_of_ble_eq_true rfl) dX5_takeStratumOfPeer_22 ⟨(Nat.le_of_ble_eq_true rfl), (Nat.le_of_ble_eq_true rfl)⟩ (fun r u H locs hw hP hS _ _ => ?_)
    obtain ⟨hw, hu⟩ := hw
    rw [hu] at hP
    have hv := bnd_name hv hw
    obtain ⟨r_4, er_4⟩ : ∃ z, z = r := ⟨_, rfl⟩
    rw [← er_4] at hv hw
    refine w_eqi er_4.symm ?_
    have gr_4 := hw
    refine lv_iconst (v := 1) hx hb dX5_takeStratumOfPeer_25 (by decide) ?_
    refine lv_iadd hx hb dX5_takeStratumOfPeer_26 ?_
    refine fp_X5_192 hx hb hts hK hP hI hS hA hown dX5_takeStratumOfPeer_27 (fun H locs hP hS => ?_)
    obtain ⟨M_5, eM_5⟩ : ∃ z : Mem, z = sI M_1 (1) (r_4 + (1 : Int32)) := ⟨_, rfl⟩
    rw [← eM_5] at hP
    have hv := bnd_name hv eM_5
    exact W.vret hx hb hr (fun t ht hW => ⟨⟨M_5, rfl, hv.symm.trans eV, by rw [ht]; exact hP, va_K.moved hW.alike hK⟩, hS.F ht⟩) hS.2.2 dX5_takeStratumOfPeer_30
def f_X5_forgetSamples_L2  : Nat → Nat → Mem → Mem
  | 0, _, M_2 => M_2
  | r + 1, i, M_2 => if nI i < (8 : Int32) then bnd (f_X4_forget M_2 (i) ) fun M_2 => f_X5_forgetSamples_L2   r (i + 1) M_2  else M_2
def f_X5_forgetSamples (M : Mem)  : Mem := f_X5_forgetSamples_L2   (8 + 1 - 0) 0 M 
theorem hyX5_forgetSamples : yX5_forgetSamples.cls ≠ "java/lang/invoke/MethodHandle" ∧ yX5_forgetSamples.cls ≠ "java/lang/invoke/VarHandle" ∧ (parseMethodDescriptor yX5_forgetSamples.desc).map (fun d => d.parameters.length) = some 0 := by decide +kernel
set_option maxHeartbeats 4000000 in
set_option maxRecDepth 100000 in
theorem c_X5_forgetSamples (l : Launch) (dC : Nat → ClassId) (dI : Nat → Nat → Nat) (cA : Nat → ClassId) (ad : Nat → Nat) (hI : Inj 69 ad) (M : Mem)   : Met l yX5_forgetSamples (.code yX5_forgetSamples cX5_forgetSamples 3 none :: AG) ({ frames := 1, cells := 0, slots := 0, locals := 20 } : Room) (va_Pc [.ref (ad (0))] (PC dC dI cA ad M)) (va_Qv (fun u => u = f_X5_forgetSamples M ) (PC dC dI cA ad) (adS 69 ad)) 0 0 (adS 69 ad) := by
  refine cMet (by decide) (Nat.le_of_ble_eq_true rfl) ?_
  intro p e s m below meth c ls hx hb hr hml hlocks hown hts hK hP hS hl
  have hA : ∀ q, adS 69 ad q → adS 69 ad q := fun _ h => h
  have hl : lv_has ls 3 [(0, .ref (ad (0)))] := hl
  obtain ⟨V, eV⟩ : ∃ z, z = f_X5_forgetSamples M  := ⟨_, rfl⟩
  have hv := eV
  unfold f_X5_forgetSamples at hv
  refine lv_iconst (v := 0) hx hb dX5_forgetSamples_0 (by decide) ?_
  refine lv_istore_n (lv' := [(1, .int (0 : Int32)), (0, .ref (ad (0)))]) hx hb dX5_forgetSamples_1 rfl hl (by decide) rfl (fun ls hl => ?_)
  have L2 : ∀ (r i : Nat) (M_2 : Mem) (H : Heap) (locs : List Loc) (ls : Array Slot), i + r = 8 + 1 → i ≤ 8 → V = f_X5_forgetSamples_L2   r i M_2  → va_P (dC, dI) vwCl (wld 69 layC cA ad M_2) H → va_S (adS 69 ad) s.heap H locs → lv_has ls 3 [(1, .int (nI i)), (0, .ref (ad (0)))] → W p l e ({ frames := 1, cells := 0, slots := 0, locals := 20 } : Room) s m ([.ref (ad (0))] : List Value).toArray below meth c H locs 0 0 (MQ below (va_Qv (fun u => u = f_X5_forgetSamples M ) (PC dC dI cA ad) (adS 69 ad)) ([.ref (ad (0))] : List Value).toArray s 0 0 (adS 69 ad)) (F0 m 2 ls []) := by
    intro r
    induction r with
    | zero =>
      intro i M_2 H locs ls hir hib
      omega
    | succ r ih =>
      intro i M_2 H locs ls hir hib hv hP hS hl
      rw [f_X5_forgetSamples_L2] at hv
      refine lv_iload_n hx hb dX5_forgetSamples_2 rfl (lv_at hl 0 rfl) ?_
      refine lv_aload_n hx hb dX5_forgetSamples_3 rfl (lv_at hl 1 rfl) ?_
      refine fg_X5_25 hx hb hts hK hP hown dX5_forgetSamples_4 ?_
      refine w_alen hx hb hK hP (k := 3) (by decide) lyC3 (Or.inr rfl) (v := 8) rfl dX5_forgetSamples_7 ?_
      refine jI_ge (tgt := 32) hx hb dX5_forgetSamples_8 (by decide) (fun c_1 => ?_) (fun c_1 => ?_)
      · have hv := hv.trans (if_pos c_1)
        have hc_1 : i < 8 := nI_lt8 (n := 8) c_1 (by omega) (by decide)
        refine lv_aload_n hx hb dX5_forgetSamples_11 rfl (lv_at hl 1 rfl) ?_
        refine fg_X5_25 hx hb hts hK hP hown dX5_forgetSamples_12 ?_
        refine lv_iload_n hx hb dX5_forgetSamples_15 rfl (lv_at hl 0 rfl) ?_
        refine w_aldN hx hb hK hP (k := 3) (by decide) lyC3 (i := i) (by omega) (by decide) dX5_forgetSamples_16 ?_
        refine lv_astore_n (lv' := [(2, .ref (ad (5 + i))), (1, .int (nI i)), (0, .ref (ad (0)))]) hx hb dX5_forgetSamples_17 rfl hl (by decide) rfl (fun ls hl => ?_)
        refine lv_aload_n hx hb dX5_forgetSamples_18 rfl (lv_at hl 0 rfl) ?_
        refine lv_ifnull hx hb dX5_forgetSamples_19 ?_
        refine lv_aload_n hx hb dX5_forgetSamples_22 rfl (lv_at hl 0 rfl) ?_
        refine kVv hx hb hml hown hts hK hP hS hA (As := []) (rest := []) (c_X4_forget l dC dI cA ad hI M_2 (i) (by omega)  ) (mkV hts q_613 q_52 q_813 q_611 q_612 hyX4_forget rfl rfl ⟨(Nat.le_of_ble_eq_true rfl), (Nat.le_of_ble_eq_true rfl)⟩) (w_recv hK hP (k := 5 + i) (by omega) (lyCs (k := i) (by omega)) (q := (RX4, TX4, 9)) rfl) rfl hl.1 rfl (Nat.le_of_ble_eq_true rfl) dX5_forgetSamples_23 ⟨(Nat.le_of_ble_eq_true rfl), (Nat.le_of_ble_eq_true rfl)⟩ (fun u H locs hw hP hS _ _ => ?_)
        obtain ⟨M_2, eM_2⟩ : ∃ z, z = u := ⟨_, rfl⟩
        rw [← eM_2] at hP hw
        have gM_2 := hw
        have hv := bnd_name hv hw
        refine lv_iinc (v := nI (i + 1)) (lv' := [(1, .int (nI (i + 1))), (2, .ref (ad (5 + i))), (0, .ref (ad (0)))]) hx hb dX5_forgetSamples_26 hl (k := 1) rfl (show nI (i) + 1 = nI (i + 1) from nI_1 _) (by decide) rfl (fun ls hl => ?_)
        refine lv_goto (tgt := 2) hx hb dX5_forgetSamples_29 (by decide) ?_
        exact ih (i + 1)  M_2 _ _ _ (by omega) (by omega)  hv hP hS (lv_sub hl [0, 2] rfl)
      · have hv := hv.trans (if_neg c_1)
        have hc_1 : ¬ i < 8 := fun h => c_1 (nI_lt h (by decide))
        exact W.vret hx hb hr (fun t ht hW => ⟨⟨M_2, rfl, hv.symm.trans eV, by rw [ht]; exact hP, va_K.moved hW.alike hK⟩, hS.F ht⟩) hS.2.2 dX5_forgetSamples_32
  exact L2 (8 + 1 - 0) 0  M _ _ _ (by omega) (by omega)  hv hP hS (lv_sub hl [0, 1] rfl)
def f_X5_agreement (M : Mem)  : Int32 × Mem := bnd (f_X5_select M  ) fun M_1 => bnd (f_X3_agreed M_1  ) fun r_2 => (r_2, M_1)
theorem hyX5_agreement : yX5_agreement.cls ≠ "java/lang/invoke/MethodHandle" ∧ yX5_agreement.cls ≠ "java/lang/invoke/VarHandle" ∧ (parseMethodDescriptor yX5_agreement.desc).map (fun d => d.parameters.length) = some 0 := by decide +kernel
set_option maxHeartbeats 4000000 in
set_option maxRecDepth 100000 in
theorem c_X5_agreement (l : Launch) (dC : Nat → ClassId) (dI : Nat → Nat → Nat) (cA : Nat → ClassId) (ad : Nat → Nat) (hI : Inj 69 ad) (M : Mem)   : Met l yX5_agreement (.code yX5_agreement cX5_agreement 1 (some .int) :: AG) ({ frames := 5, cells := 0, slots := 0, locals := 120 } : Room) (va_Pc [.ref (ad (0))] (PC dC dI cA ad M)) (va_Qi (fun r u => (r, u) = f_X5_agreement M ) (PC dC dI cA ad) (adS 69 ad)) 0 0 (adS 69 ad) := by
  refine cMet (by decide) (Nat.le_of_ble_eq_true rfl) ?_
  intro p e s m below meth c ls hx hb hr hml hlocks hown hts hK hP hS hl
  have hA : ∀ q, adS 69 ad q → adS 69 ad q := fun _ h => h
  have hl : lv_has ls 1 [(0, .ref (ad (0)))] := hl
  obtain ⟨V, eV⟩ : ∃ z, z = f_X5_agreement M  := ⟨_, rfl⟩
  have hv := eV
  unfold f_X5_agreement at hv
  refine lv_aload_n hx hb dX5_agreement_0 rfl (lv_at hl 0 rfl) ?_
  refine kVv hx hb hml hown hts hK hP hS hA (As := []) (rest := []) (c_X5_select l dC dI cA ad hI M   ) (mkV hts q_295 q_47 q_292 q_294 q_1 hyX5_select rfl rfl ⟨(Nat.le_of_ble_eq_true rfl), (Nat.le_of_ble_eq_true rfl)⟩) (w_recv hK hP (k := 0) (by decide) lyC0 (q := (RX5, TX5, 10)) rfl) rfl hl.1 rfl (Nat.le_of_ble_eq_true rfl) dX5_agreement_1 ⟨(Nat.le_of_ble_eq_true rfl), (Nat.le_of_ble_eq_true rfl)⟩ (fun u H locs hw hP hS _ _ => ?_)
  obtain ⟨M_1, eM_1⟩ : ∃ z, z = u := ⟨_, rfl⟩
  rw [← eM_1] at hP hw
  have gM_1 := hw
  have hv := bnd_name hv hw
  refine lv_aload_n hx hb dX5_agreement_4 rfl (lv_at hl 0 rfl) ?_
  refine fg_X5_32 hx hb hts hK hP hown dX5_agreement_5 ?_
  refine kVi hx hb hml hown hts hK hP hS hA (As := []) (rest := []) (c_X3_agreed l dC dI cA ad hI M_1   ) (mkV hts q_398 q_50 q_395 q_396 q_397 hyX3_agreed rfl rfl ⟨(Nat.le_of_ble_eq_true rfl), (Nat.le_of_ble_eq_true rfl)⟩) (w_recv hK hP (k := 4) (by decide) lyC4 (q := (RX3, TX3, 9)) rfl) rfl hl.1 rfl (Nat.le_of_ble_eq_true rfl) dX5_agreement_8 ⟨(Nat.le_of_ble_eq_true rfl), (Nat.le_of_ble_eq_true rfl)⟩ (fun r u H locs hw hP hS _ _ => ?_)
  obtain ⟨hw, hu⟩ := hw
  rw [hu] at hP
  have hv := bnd_name hv hw
  obtain ⟨r_2, er_2⟩ : ∃ z, z = r := ⟨_, rfl⟩
  rw [← er_2] at hv hw
  refine w_eqi er_2.symm ?_
  have gr_2 := hw
  exact W.iret (v := r_2) hx hb hr (fun t ht hW => ⟨⟨_, M_1, rfl, hv.symm.trans eV, by rw [ht]; exact hP, va_K.moved hW.alike hK⟩, hS.F ht⟩) hS.2.2 dX5_agreement_11
def f_X5_hasMajority (M : Mem)  : Int32 × Mem := bnd (f_X5_select M  ) fun M_1 => bnd (f_X3_isMajority M_1  ) fun r_2 => (r_2, M_1)
theorem hyX5_hasMajority : yX5_hasMajority.cls ≠ "java/lang/invoke/MethodHandle" ∧ yX5_hasMajority.cls ≠ "java/lang/invoke/VarHandle" ∧ (parseMethodDescriptor yX5_hasMajority.desc).map (fun d => d.parameters.length) = some 0 := by decide +kernel
set_option maxHeartbeats 4000000 in
set_option maxRecDepth 100000 in
theorem c_X5_hasMajority (l : Launch) (dC : Nat → ClassId) (dI : Nat → Nat → Nat) (cA : Nat → ClassId) (ad : Nat → Nat) (hI : Inj 69 ad) (M : Mem)   : Met l yX5_hasMajority (.code yX5_hasMajority cX5_hasMajority 1 (some .boolean) :: AG) ({ frames := 5, cells := 0, slots := 0, locals := 120 } : Room) (va_Pc [.ref (ad (0))] (PC dC dI cA ad M)) (va_Qi (fun r u => (r, u) = f_X5_hasMajority M ) (PC dC dI cA ad) (adS 69 ad)) 0 0 (adS 69 ad) := by
  refine cMet (by decide) (Nat.le_of_ble_eq_true rfl) ?_
  intro p e s m below meth c ls hx hb hr hml hlocks hown hts hK hP hS hl
  have hA : ∀ q, adS 69 ad q → adS 69 ad q := fun _ h => h
  have hl : lv_has ls 1 [(0, .ref (ad (0)))] := hl
  obtain ⟨V, eV⟩ : ∃ z, z = f_X5_hasMajority M  := ⟨_, rfl⟩
  have hv := eV
  unfold f_X5_hasMajority at hv
  refine lv_aload_n hx hb dX5_hasMajority_0 rfl (lv_at hl 0 rfl) ?_
  refine kVv hx hb hml hown hts hK hP hS hA (As := []) (rest := []) (c_X5_select l dC dI cA ad hI M   ) (mkV hts q_295 q_47 q_292 q_294 q_1 hyX5_select rfl rfl ⟨(Nat.le_of_ble_eq_true rfl), (Nat.le_of_ble_eq_true rfl)⟩) (w_recv hK hP (k := 0) (by decide) lyC0 (q := (RX5, TX5, 10)) rfl) rfl hl.1 rfl (Nat.le_of_ble_eq_true rfl) dX5_hasMajority_1 ⟨(Nat.le_of_ble_eq_true rfl), (Nat.le_of_ble_eq_true rfl)⟩ (fun u H locs hw hP hS _ _ => ?_)
  obtain ⟨M_1, eM_1⟩ : ∃ z, z = u := ⟨_, rfl⟩
  rw [← eM_1] at hP hw
  have gM_1 := hw
  have hv := bnd_name hv hw
  refine lv_aload_n hx hb dX5_hasMajority_4 rfl (lv_at hl 0 rfl) ?_
  refine fg_X5_32 hx hb hts hK hP hown dX5_hasMajority_5 ?_
  refine kVi hx hb hml hown hts hK hP hS hA (As := []) (rest := []) (c_X3_isMajority l dC dI cA ad hI M_1   ) (mkV hts q_406 q_50 q_403 q_404 q_405 hyX3_isMajority rfl rfl ⟨(Nat.le_of_ble_eq_true rfl), (Nat.le_of_ble_eq_true rfl)⟩) (w_recv hK hP (k := 4) (by decide) lyC4 (q := (RX3, TX3, 9)) rfl) rfl hl.1 rfl (Nat.le_of_ble_eq_true rfl) dX5_hasMajority_8 ⟨(Nat.le_of_ble_eq_true rfl), (Nat.le_of_ble_eq_true rfl)⟩ (fun r u H locs hw hP hS _ _ => ?_)
  obtain ⟨hw, hu⟩ := hw
  rw [hu] at hP
  have hv := bnd_name hv hw
  obtain ⟨r_2, er_2⟩ : ∃ z, z = r := ⟨_, rfl⟩
  rw [← er_2] at hv hw
  refine w_eqi er_2.symm ?_
  have gr_2 := hw
  have br_2 : r_2 = 0 ∨ r_2 = 1 := by rw [hw]; exact f_X3_isMajority_b M_1  
  exact W.zret (v := r_2) hx hb hr (nar_b br_2) (fun t ht hW => ⟨⟨_, M_1, rfl, hv.symm.trans eV, by rw [ht]; exact hP, va_K.moved hW.alike hK⟩, hS.F ht⟩) hS.2.2 dX5_hasMajority_11
theorem f_X5_hasMajority_b (M : Mem)  : (f_X5_hasMajority M ).1 = 0 ∨ (f_X5_hasMajority M ).1 = 1 := by
  unfold f_X5_hasMajority
  repeat' (first | with_reducible refine bnd_id1 (by apply f_X3_isMajority_b) | with_reducible refine bnd_or1 (fun _ => ?_) | with_reducible refine bnd2_or1 (fun _ _ => ?_) | with_reducible refine ite_or1 ?_ ?_ | exact Or.inl rfl | exact Or.inr rfl)
def f_X5_agreeing (M : Mem)  : Int32 × Mem := bnd (f_X5_select M  ) fun M_1 => bnd (f_X3_agreeingBits M_1  ) fun r_2 => (r_2, M_1)
theorem hyX5_agreeing : yX5_agreeing.cls ≠ "java/lang/invoke/MethodHandle" ∧ yX5_agreeing.cls ≠ "java/lang/invoke/VarHandle" ∧ (parseMethodDescriptor yX5_agreeing.desc).map (fun d => d.parameters.length) = some 0 := by decide +kernel
set_option maxHeartbeats 4000000 in
set_option maxRecDepth 100000 in
theorem c_X5_agreeing (l : Launch) (dC : Nat → ClassId) (dI : Nat → Nat → Nat) (cA : Nat → ClassId) (ad : Nat → Nat) (hI : Inj 69 ad) (M : Mem)   : Met l yX5_agreeing (.code yX5_agreeing cX5_agreeing 1 (some .int) :: AG) ({ frames := 5, cells := 0, slots := 0, locals := 120 } : Room) (va_Pc [.ref (ad (0))] (PC dC dI cA ad M)) (va_Qi (fun r u => (r, u) = f_X5_agreeing M ) (PC dC dI cA ad) (adS 69 ad)) 0 0 (adS 69 ad) := by
  refine cMet (by decide) (Nat.le_of_ble_eq_true rfl) ?_
  intro p e s m below meth c ls hx hb hr hml hlocks hown hts hK hP hS hl
  have hA : ∀ q, adS 69 ad q → adS 69 ad q := fun _ h => h
  have hl : lv_has ls 1 [(0, .ref (ad (0)))] := hl
  obtain ⟨V, eV⟩ : ∃ z, z = f_X5_agreeing M  := ⟨_, rfl⟩
  have hv := eV
  unfold f_X5_agreeing at hv
  refine lv_aload_n hx hb dX5_agreeing_0 rfl (lv_at hl 0 rfl) ?_
  refine kVv hx hb hml hown hts hK hP hS hA (As := []) (rest := []) (c_X5_select l dC dI cA ad hI M   ) (mkV hts q_295 q_47 q_292 q_294 q_1 hyX5_select rfl rfl ⟨(Nat.le_of_ble_eq_true rfl), (Nat.le_of_ble_eq_true rfl)⟩) (w_recv hK hP (k := 0) (by decide) lyC0 (q := (RX5, TX5, 10)) rfl) rfl hl.1 rfl (Nat.le_of_ble_eq_true rfl) dX5_agreeing_1 ⟨(Nat.le_of_ble_eq_true rfl), (Nat.le_of_ble_eq_true rfl)⟩ (fun u H locs hw hP hS _ _ => ?_)
  obtain ⟨M_1, eM_1⟩ : ∃ z, z = u := ⟨_, rfl⟩
  rw [← eM_1] at hP hw
  have gM_1 := hw
  have hv := bnd_name hv hw
  refine lv_aload_n hx hb dX5_agreeing_4 rfl (lv_at hl 0 rfl) ?_
  refine fg_X5_32 hx hb hts hK hP hown dX5_agreeing_5 ?_
  refine kVi hx hb hml hown hts hK hP hS hA (As := []) (rest := []) (c_X3_agreeingBits l dC dI cA ad hI M_1   ) (mkV hts q_415 q_50 q_412 q_413 q_414 hyX3_agreeingBits rfl rfl ⟨(Nat.le_of_ble_eq_true rfl), (Nat.le_of_ble_eq_true rfl)⟩) (w_recv hK hP (k := 4) (by decide) lyC4 (q := (RX3, TX3, 9)) rfl) rfl hl.1 rfl (Nat.le_of_ble_eq_true rfl) dX5_agreeing_8 ⟨(Nat.le_of_ble_eq_true rfl), (Nat.le_of_ble_eq_true rfl)⟩ (fun r u H locs hw hP hS _ _ => ?_)
  obtain ⟨hw, hu⟩ := hw
  rw [hu] at hP
  have hv := bnd_name hv hw
  obtain ⟨r_2, er_2⟩ : ∃ z, z = r := ⟨_, rfl⟩
  rw [← er_2] at hv hw
  refine w_eqi er_2.symm ?_
  have gr_2 := hw
  exact W.iret (v := r_2) hx hb hr (fun t ht hW => ⟨⟨_, M_1, rfl, hv.symm.trans eV, by rw [ht]; exact hP, va_K.moved hW.alike hK⟩, hS.F ht⟩) hS.2.2 dX5_agreeing_11
def f_X5_survivors (M : Mem)  : Int32 × Mem := bnd (f_X5_select M  ) fun M_1 => bnd (f_X3_survivorBits M_1  ) fun r_2 => (r_2, M_1)
theorem hyX5_survivors : yX5_survivors.cls ≠ "java/lang/invoke/MethodHandle" ∧ yX5_survivors.cls ≠ "java/lang/invoke/VarHandle" ∧ (parseMethodDescriptor yX5_survivors.desc).map (fun d => d.parameters.length) = some 0 := by decide +kernel
set_option maxHeartbeats 4000000 in
set_option maxRecDepth 100000 in
theorem c_X5_survivors (l : Launch) (dC : Nat → ClassId) (dI : Nat → Nat → Nat) (cA : Nat → ClassId) (ad : Nat → Nat) (hI : Inj 69 ad) (M : Mem)   : Met l yX5_survivors (.code yX5_survivors cX5_survivors 1 (some .int) :: AG) ({ frames := 5, cells := 0, slots := 0, locals := 120 } : Room) (va_Pc [.ref (ad (0))] (PC dC dI cA ad M)) (va_Qi (fun r u => (r, u) = f_X5_survivors M ) (PC dC dI cA ad) (adS 69 ad)) 0 0 (adS 69 ad) := by
  refine cMet (by decide) (Nat.le_of_ble_eq_true rfl) ?_
  intro p e s m below meth c ls hx hb hr hml hlocks hown hts hK hP hS hl
  have hA : ∀ q, adS 69 ad q → adS 69 ad q := fun _ h => h
  have hl : lv_has ls 1 [(0, .ref (ad (0)))] := hl
  obtain ⟨V, eV⟩ : ∃ z, z = f_X5_survivors M  := ⟨_, rfl⟩
  have hv := eV
  unfold f_X5_survivors at hv
  refine lv_aload_n hx hb dX5_survivors_0 rfl (lv_at hl 0 rfl) ?_
  refine kVv hx hb hml hown hts hK hP hS hA (As := []) (rest := []) (c_X5_select l dC dI cA ad hI M   ) (mkV hts q_295 q_47 q_292 q_294 q_1 hyX5_select rfl rfl ⟨(Nat.le_of_ble_eq_true rfl), (Nat.le_of_ble_eq_true rfl)⟩) (w_recv hK hP (k := 0) (by decide) lyC0 (q := (RX5, TX5, 10)) rfl) rfl hl.1 rfl (Nat.le_of_ble_eq_true rfl) dX5_survivors_1 ⟨(Nat.le_of_ble_eq_true rfl), (Nat.le_of_ble_eq_true rfl)⟩ (fun u H locs hw hP hS _ _ => ?_)
  obtain ⟨M_1, eM_1⟩ : ∃ z, z = u := ⟨_, rfl⟩
  rw [← eM_1] at hP hw
  have gM_1 := hw
  have hv := bnd_name hv hw
  refine lv_aload_n hx hb dX5_survivors_4 rfl (lv_at hl 0 rfl) ?_
  refine fg_X5_32 hx hb hts hK hP hown dX5_survivors_5 ?_
  refine kVi hx hb hml hown hts hK hP hS hA (As := []) (rest := []) (c_X3_survivorBits l dC dI cA ad hI M_1   ) (mkV hts q_423 q_50 q_420 q_421 q_422 hyX3_survivorBits rfl rfl ⟨(Nat.le_of_ble_eq_true rfl), (Nat.le_of_ble_eq_true rfl)⟩) (w_recv hK hP (k := 4) (by decide) lyC4 (q := (RX3, TX3, 9)) rfl) rfl hl.1 rfl (Nat.le_of_ble_eq_true rfl) dX5_survivors_8 ⟨(Nat.le_of_ble_eq_true rfl), (Nat.le_of_ble_eq_true rfl)⟩ (fun r u H locs hw hP hS _ _ => ?_)
  obtain ⟨hw, hu⟩ := hw
  rw [hu] at hP
  have hv := bnd_name hv hw
  obtain ⟨r_2, er_2⟩ : ∃ z, z = r := ⟨_, rfl⟩
  rw [← er_2] at hv hw
  refine w_eqi er_2.symm ?_
  have gr_2 := hw
  exact W.iret (v := r_2) hx hb hr (fun t ht hW => ⟨⟨_, M_1, rfl, hv.symm.trans eV, by rw [ht]; exact hP, va_K.moved hW.alike hK⟩, hS.F ht⟩) hS.2.2 dX5_survivors_11
def f_X5_peer (M : Mem)  : Int32 × Mem := bnd (f_X5_select M  ) fun M_1 => bnd (f_X3_preferred M_1  ) fun r_2 => (r_2, M_1)
theorem hyX5_peer : yX5_peer.cls ≠ "java/lang/invoke/MethodHandle" ∧ yX5_peer.cls ≠ "java/lang/invoke/VarHandle" ∧ (parseMethodDescriptor yX5_peer.desc).map (fun d => d.parameters.length) = some 0 := by decide +kernel
set_option maxHeartbeats 4000000 in
set_option maxRecDepth 100000 in
theorem c_X5_peer (l : Launch) (dC : Nat → ClassId) (dI : Nat → Nat → Nat) (cA : Nat → ClassId) (ad : Nat → Nat) (hI : Inj 69 ad) (M : Mem)   : Met l yX5_peer (.code yX5_peer cX5_peer 1 (some .int) :: AG) ({ frames := 5, cells := 0, slots := 0, locals := 120 } : Room) (va_Pc [.ref (ad (0))] (PC dC dI cA ad M)) (va_Qi (fun r u => (r, u) = f_X5_peer M ) (PC dC dI cA ad) (adS 69 ad)) 0 0 (adS 69 ad) := by
  refine cMet (by decide) (Nat.le_of_ble_eq_true rfl) ?_
  intro p e s m below meth c ls hx hb hr hml hlocks hown hts hK hP hS hl
  have hA : ∀ q, adS 69 ad q → adS 69 ad q := fun _ h => h
  have hl : lv_has ls 1 [(0, .ref (ad (0)))] := hl
  obtain ⟨V, eV⟩ : ∃ z, z = f_X5_peer M  := ⟨_, rfl⟩
  have hv := eV
  unfold f_X5_peer at hv
  refine lv_aload_n hx hb dX5_peer_0 rfl (lv_at hl 0 rfl) ?_
  refine kVv hx hb hml hown hts hK hP hS hA (As := []) (rest := []) (c_X5_select l dC dI cA ad hI M   ) (mkV hts q_295 q_47 q_292 q_294 q_1 hyX5_select rfl rfl ⟨(Nat.le_of_ble_eq_true rfl), (Nat.le_of_ble_eq_true rfl)⟩) (w_recv hK hP (k := 0) (by decide) lyC0 (q := (RX5, TX5, 10)) rfl) rfl hl.1 rfl (Nat.le_of_ble_eq_true rfl) dX5_peer_1 ⟨(Nat.le_of_ble_eq_true rfl), (Nat.le_of_ble_eq_true rfl)⟩ (fun u H locs hw hP hS _ _ => ?_)
  obtain ⟨M_1, eM_1⟩ : ∃ z, z = u := ⟨_, rfl⟩
  rw [← eM_1] at hP hw
  have gM_1 := hw
  have hv := bnd_name hv hw
  refine lv_aload_n hx hb dX5_peer_4 rfl (lv_at hl 0 rfl) ?_
  refine fg_X5_32 hx hb hts hK hP hown dX5_peer_5 ?_
  refine kVi hx hb hml hown hts hK hP hS hA (As := []) (rest := []) (c_X3_preferred l dC dI cA ad hI M_1   ) (mkV hts q_431 q_50 q_428 q_429 q_430 hyX3_preferred rfl rfl ⟨(Nat.le_of_ble_eq_true rfl), (Nat.le_of_ble_eq_true rfl)⟩) (w_recv hK hP (k := 4) (by decide) lyC4 (q := (RX3, TX3, 9)) rfl) rfl hl.1 rfl (Nat.le_of_ble_eq_true rfl) dX5_peer_8 ⟨(Nat.le_of_ble_eq_true rfl), (Nat.le_of_ble_eq_true rfl)⟩ (fun r u H locs hw hP hS _ _ => ?_)
  obtain ⟨hw, hu⟩ := hw
  rw [hu] at hP
  have hv := bnd_name hv hw
  obtain ⟨r_2, er_2⟩ : ∃ z, z = r := ⟨_, rfl⟩
  rw [← er_2] at hv hw
  refine w_eqi er_2.symm ?_
  have gr_2 := hw
  exact W.iret (v := r_2) hx hb hr (fun t ht hW => ⟨⟨_, M_1, rfl, hv.symm.trans eV, by rw [ht]; exact hP, va_K.moved hW.alike hK⟩, hS.F ht⟩) hS.2.2 dX5_peer_11
