def f_X6_agreement (M : Mem)  : Int32 × Mem := bnd (f_X6_intersect M  ) fun M_1 => bnd2 (f_X6_fine M_1  (gI M_1 (8))) fun r_3 M_2 => (r_3, M_2)
theorem hyX6_agreement : yX6_agreement.cls ≠ "java/lang/invoke/MethodHandle" ∧ yX6_agreement.cls ≠ "java/lang/invoke/VarHandle" ∧ (parseMethodDescriptor yX6_agreement.desc).map (fun d => d.parameters.length) = some 0 := by decide +kernel
set_option maxHeartbeats 4000000 in
set_option maxRecDepth 100000 in
theorem c_X6_agreement (l : Launch) (dC : Nat → ClassId) (dI : Nat → Nat → Nat) (cA : Nat → ClassId) (ad : Nat → Nat) (hI : Inj 12 ad) (M : Mem) (hw0 : WFm M)  : Met l yX6_agreement (.code yX6_agreement cX6_agreement 1 (some .int) :: AG) ({ frames := 7, cells := 0, slots := 0, locals := 160 } : Room) (va_Pc [.ref (ad (0))] (PM dC dI cA ad M)) (va_Qi (fun r u => (r, u) = f_X6_agreement M  ∧ WFm u) (PM dC dI cA ad) (adS 12 ad)) 0 0 (adS 12 ad) := by
  refine cMet (by decide) (Nat.le_of_ble_eq_true rfl) ?_
  intro p e s m below meth c ls hx hb hr hml hlocks hown hts hK hP hS hl
  have hA : ∀ q, adS 12 ad q → adS 12 ad q := fun _ h => h
  have hl : lv_has ls 1 [(0, .ref (ad (0)))] := hl
  obtain ⟨V, eV⟩ : ∃ z, z = f_X6_agreement M  := ⟨_, rfl⟩
  have hv := eV
  unfold f_X6_agreement at hv
  refine lv_aload_n hx hb dX6_agreement_0 rfl (lv_at hl 0 rfl) ?_
  refine kVv hx hb hml hown hts hK hP hS hA (As := []) (rest := []) (c_X6_intersect l dC dI cA ad hI M   hw0 ) (mkV hts q_1057 q_53 q_1054 q_1056 q_35 hyX6_intersect rfl rfl ⟨(Nat.le_of_ble_eq_true rfl), (Nat.le_of_ble_eq_true rfl)⟩) (w_recv hK hP (k := 0) (by decide) lyM0 (q := (RX6, TX6, 26)) rfl) rfl hl.1 rfl (Nat.le_of_ble_eq_true rfl) dX6_agreement_1 ⟨(Nat.le_of_ble_eq_true rfl), (Nat.le_of_ble_eq_true rfl)⟩ (fun u H locs hw hP hS _ _ => ?_)
  obtain ⟨M_1, eM_1⟩ : ∃ z, z = u := ⟨_, rfl⟩
  rw [← eM_1] at hP hw
  obtain ⟨hw, wM_1⟩ := hw
  have gM_1 := hw
  have hv := bnd_name hv hw
  refine lv_aload_n hx hb dX6_agreement_4 rfl (lv_at hl 0 rfl) ?_
  refine lv_aload_n hx hb dX6_agreement_5 rfl (lv_at hl 0 rfl) ?_
  refine fg_X6_181 hx hb hts hK hP hown dX6_agreement_6 ?_
  refine kVi hx hb hml hown hts hK hP hS hA (As := [.int (gI M_1 (8))]) (rest := []) (c_X6_fine l dC dI cA ad hI M_1  (gI M_1 (8)) wM_1 ) (mkV hts q_965 q_53 q_962 q_964 q_28 hyX6_fine rfl rfl ⟨(Nat.le_of_ble_eq_true rfl), (Nat.le_of_ble_eq_true rfl)⟩) (w_recv hK hP (k := 0) (by decide) lyM0 (q := (RX6, TX6, 26)) rfl) rfl hl.1 rfl (Nat.le_of_ble_eq_true rfl) dX6_agreement_9 ⟨(Nat.le_of_ble_eq_true rfl), (Nat.le_of_ble_eq_true rfl)⟩ (fun r u H locs hw hP hS _ _ => ?_)
  obtain ⟨M_2, eM_2⟩ : ∃ z, z = u := ⟨_, rfl⟩
  rw [← eM_2] at hP hw
  obtain ⟨r_3, er_3⟩ : ∃ z, z = r := ⟨_, rfl⟩
  rw [← er_3] at hw
  refine w_eqi er_3.symm ?_
  obtain ⟨hw, wM_2⟩ := hw
  have gM_2 := hw
  have hv := bnd2_name hv hw
  exact W.iret (v := r_3) hx hb hr (fun t ht hW => ⟨⟨_, M_2, rfl, ⟨hv.symm.trans eV, wM_2⟩, by rw [ht]; exact hP, va_K.moved hW.alike hK⟩, hS.F ht⟩) hS.2.2 dX6_agreement_12
def f_X6_hasMajority (M : Mem)  : Int32 × Mem := bnd (sI M (0) (0 : Int32)) fun M_1 => bnd (f_X6_intersect M_1  ) fun M_2 => if gI M_2 (7) < ((2 : Int32) * gI M_2 (8)) then ((1 : Int32), M_2) else ((0 : Int32), M_2)
theorem hyX6_hasMajority : yX6_hasMajority.cls ≠ "java/lang/invoke/MethodHandle" ∧ yX6_hasMajority.cls ≠ "java/lang/invoke/VarHandle" ∧ (parseMethodDescriptor yX6_hasMajority.desc).map (fun d => d.parameters.length) = some 0 := by decide +kernel
set_option maxHeartbeats 4000000 in
set_option maxRecDepth 100000 in
theorem c_X6_hasMajority (l : Launch) (dC : Nat → ClassId) (dI : Nat → Nat → Nat) (cA : Nat → ClassId) (ad : Nat → Nat) (hI : Inj 12 ad) (M : Mem) (hw0 : WFm M)  : Met l yX6_hasMajority (.code yX6_hasMajority cX6_hasMajority 1 (some .boolean) :: AG) ({ frames := 7, cells := 0, slots := 0, locals := 160 } : Room) (va_Pc [.ref (ad (0))] (PM dC dI cA ad M)) (va_Qi (fun r u => (r, u) = f_X6_hasMajority M  ∧ WFm u) (PM dC dI cA ad) (adS 12 ad)) 0 0 (adS 12 ad) := by
  refine cMet (by decide) (Nat.le_of_ble_eq_true rfl) ?_
  intro p e s m below meth c ls hx hb hr hml hlocks hown hts hK hP hS hl
  have hA : ∀ q, adS 12 ad q → adS 12 ad q := fun _ h => h
  have hl : lv_has ls 1 [(0, .ref (ad (0)))] := hl
  obtain ⟨V, eV⟩ : ∃ z, z = f_X6_hasMajority M  := ⟨_, rfl⟩
  have hv := eV
  unfold f_X6_hasMajority at hv
  refine lv_aload_n hx hb dX6_hasMajority_0 rfl (lv_at hl 0 rfl) ?_
  refine lv_iconst (v := 0) hx hb dX6_hasMajority_1 (by decide) ?_
  refine fp_X6_49 hx hb hts hK hP hI hS hA hown dX6_hasMajority_2 (fun H locs hP hS => ?_)
  obtain ⟨M_1, eM_1⟩ : ∃ z : Mem, z = sI M (0) (0 : Int32) := ⟨_, rfl⟩
  rw [← eM_1] at hP
  have hv := bnd_name hv eM_1
  have wM_1 : WFm M_1 := by rw [eM_1]; exact WFm_sI hw0 (by decide)
  refine lv_aload_n hx hb dX6_hasMajority_5 rfl (lv_at hl 0 rfl) ?_
  refine kVv hx hb hml hown hts hK hP hS hA (As := []) (rest := []) (c_X6_intersect l dC dI cA ad hI M_1   wM_1 ) (mkV hts q_1057 q_53 q_1054 q_1056 q_35 hyX6_intersect rfl rfl ⟨(Nat.le_of_ble_eq_true rfl), (Nat.le_of_ble_eq_true rfl)⟩) (w_recv hK hP (k := 0) (by decide) lyM0 (q := (RX6, TX6, 26)) rfl) rfl hl.1 rfl (Nat.le_of_ble_eq_true rfl) dX6_hasMajority_6 ⟨(Nat.le_of_ble_eq_true rfl), (Nat.le_of_ble_eq_true rfl)⟩ (fun u H locs hw hP hS _ _ => ?_)
  obtain ⟨M_2, eM_2⟩ : ∃ z, z = u := ⟨_, rfl⟩
  rw [← eM_2] at hP hw
  obtain ⟨hw, wM_2⟩ := hw
  have gM_2 := hw
  have hv := bnd_name hv hw
  refine lv_iconst (v := 2) hx hb dX6_hasMajority_9 (by decide) ?_
  refine lv_aload_n hx hb dX6_hasMajority_10 rfl (lv_at hl 0 rfl) ?_
  refine fg_X6_181 hx hb hts hK hP hown dX6_hasMajority_11 ?_
  refine lv_imul hx hb dX6_hasMajority_14 ?_
  refine lv_aload_n hx hb dX6_hasMajority_15 rfl (lv_at hl 0 rfl) ?_
  refine fg_X6_178 hx hb hts hK hP hown dX6_hasMajority_16 ?_
  refine jI_le (tgt := 26) hx hb dX6_hasMajority_19 (by decide) (fun c_3 => ?_) (fun c_3 => ?_)
  · have hv := hv.trans (if_pos c_3)
    refine lv_iconst (v := 1) hx hb dX6_hasMajority_22 (by decide) ?_
    refine lv_goto (tgt := 27) hx hb dX6_hasMajority_23 (by decide) ?_
    exact W.zret (v := (1 : Int32)) hx hb hr rfl (fun t ht hW => ⟨⟨_, M_2, rfl, ⟨hv.symm.trans eV, wM_2⟩, by rw [ht]; exact hP, va_K.moved hW.alike hK⟩, hS.F ht⟩) hS.2.2 dX6_hasMajority_27
  · have hv := hv.trans (if_neg c_3)
    refine lv_iconst (v := 0) hx hb dX6_hasMajority_26 (by decide) ?_
    exact W.zret (v := (0 : Int32)) hx hb hr rfl (fun t ht hW => ⟨⟨_, M_2, rfl, ⟨hv.symm.trans eV, wM_2⟩, by rw [ht]; exact hP, va_K.moved hW.alike hK⟩, hS.F ht⟩) hS.2.2 dX6_hasMajority_27
theorem f_X6_hasMajority_b (M : Mem)  : (f_X6_hasMajority M ).1 = 0 ∨ (f_X6_hasMajority M ).1 = 1 := by
  unfold f_X6_hasMajority
  repeat' (first | with_reducible refine bnd_or1 (fun _ => ?_) | with_reducible refine bnd2_or1 (fun _ _ => ?_) | with_reducible refine ite_or1 ?_ ?_ | exact Or.inl rfl | exact Or.inr rfl)
def f_X6_agreeing (M : Mem)  : Int32 × Mem := bnd (f_X6_intersect M  ) fun M_1 => bnd (f_X6_set M_1  6) fun r_2 => bnd2 (f_X6_fine M_1  r_2) fun r_4 M_3 => (r_4, M_3)
theorem hyX6_agreeing : yX6_agreeing.cls ≠ "java/lang/invoke/MethodHandle" ∧ yX6_agreeing.cls ≠ "java/lang/invoke/VarHandle" ∧ (parseMethodDescriptor yX6_agreeing.desc).map (fun d => d.parameters.length) = some 0 := by decide +kernel
set_option maxHeartbeats 4000000 in
set_option maxRecDepth 100000 in
theorem c_X6_agreeing (l : Launch) (dC : Nat → ClassId) (dI : Nat → Nat → Nat) (cA : Nat → ClassId) (ad : Nat → Nat) (hI : Inj 12 ad) (M : Mem) (hw0 : WFm M)  : Met l yX6_agreeing (.code yX6_agreeing cX6_agreeing 1 (some .int) :: AG) ({ frames := 7, cells := 0, slots := 0, locals := 160 } : Room) (va_Pc [.ref (ad (0))] (PM dC dI cA ad M)) (va_Qi (fun r u => (r, u) = f_X6_agreeing M  ∧ WFm u) (PM dC dI cA ad) (adS 12 ad)) 0 0 (adS 12 ad) := by
  refine cMet (by decide) (Nat.le_of_ble_eq_true rfl) ?_
  intro p e s m below meth c ls hx hb hr hml hlocks hown hts hK hP hS hl
  have hA : ∀ q, adS 12 ad q → adS 12 ad q := fun _ h => h
  have hl : lv_has ls 1 [(0, .ref (ad (0)))] := hl
  obtain ⟨V, eV⟩ : ∃ z, z = f_X6_agreeing M  := ⟨_, rfl⟩
  have hv := eV
  unfold f_X6_agreeing at hv
  refine lv_aload_n hx hb dX6_agreeing_0 rfl (lv_at hl 0 rfl) ?_
  refine kVv hx hb hml hown hts hK hP hS hA (As := []) (rest := []) (c_X6_intersect l dC dI cA ad hI M   hw0 ) (mkV hts q_1057 q_53 q_1054 q_1056 q_35 hyX6_intersect rfl rfl ⟨(Nat.le_of_ble_eq_true rfl), (Nat.le_of_ble_eq_true rfl)⟩) (w_recv hK hP (k := 0) (by decide) lyM0 (q := (RX6, TX6, 26)) rfl) rfl hl.1 rfl (Nat.le_of_ble_eq_true rfl) dX6_agreeing_1 ⟨(Nat.le_of_ble_eq_true rfl), (Nat.le_of_ble_eq_true rfl)⟩ (fun u H locs hw hP hS _ _ => ?_)
  obtain ⟨M_1, eM_1⟩ : ∃ z, z = u := ⟨_, rfl⟩
  rw [← eM_1] at hP hw
  obtain ⟨hw, wM_1⟩ := hw
  have gM_1 := hw
  have hv := bnd_name hv hw
  refine lv_aload_n hx hb dX6_agreeing_4 rfl (lv_at hl 0 rfl) ?_
  refine lv_aload_n hx hb dX6_agreeing_5 rfl (lv_at hl 0 rfl) ?_
  refine fg_X6_42 hx hb hts hK hP hown dX6_agreeing_6 ?_
  refine kTi hx hb hml hown hts hK hP hS hA (As := [.ref (ad (10))]) (rest := [.ref (ad (0))]) (c_X6_set l dC dI cA ad hI M_1 10 6 (by decide) lyM10 wM_1 ) (mkS hts q_1084 q_53 q_1082 q_1083 hyX6_set rfl rfl ⟨(Nat.le_of_ble_eq_true rfl), (Nat.le_of_ble_eq_true rfl)⟩) rfl hl.1 rfl (Nat.le_of_ble_eq_true rfl) dX6_agreeing_9 ⟨(Nat.le_of_ble_eq_true rfl), (Nat.le_of_ble_eq_true rfl)⟩ (fun r u H locs hw hP hS _ _ => ?_)
  obtain ⟨hw, hu⟩ := hw
  rw [hu] at hP
  have hv := bnd_name hv hw
  obtain ⟨r_2, er_2⟩ : ∃ z, z = r := ⟨_, rfl⟩
  rw [← er_2] at hv hw
  refine w_eqi er_2.symm ?_
  have gr_2 := hw
  refine kVi hx hb hml hown hts hK hP hS hA (As := [.int r_2]) (rest := []) (c_X6_fine l dC dI cA ad hI M_1  r_2 wM_1 ) (mkV hts q_965 q_53 q_962 q_964 q_28 hyX6_fine rfl rfl ⟨(Nat.le_of_ble_eq_true rfl), (Nat.le_of_ble_eq_true rfl)⟩) (w_recv hK hP (k := 0) (by decide) lyM0 (q := (RX6, TX6, 26)) rfl) rfl hl.1 rfl (Nat.le_of_ble_eq_true rfl) dX6_agreeing_12 ⟨(Nat.le_of_ble_eq_true rfl), (Nat.le_of_ble_eq_true rfl)⟩ (fun r u H locs hw hP hS _ _ => ?_)
  obtain ⟨M_3, eM_3⟩ : ∃ z, z = u := ⟨_, rfl⟩
  rw [← eM_3] at hP hw
  obtain ⟨r_4, er_4⟩ : ∃ z, z = r := ⟨_, rfl⟩
  rw [← er_4] at hw
  refine w_eqi er_4.symm ?_
  obtain ⟨hw, wM_3⟩ := hw
  have gM_3 := hw
  have hv := bnd2_name hv hw
  exact W.iret (v := r_4) hx hb hr (fun t ht hW => ⟨⟨_, M_3, rfl, ⟨hv.symm.trans eV, wM_3⟩, by rw [ht]; exact hP, va_K.moved hW.alike hK⟩, hS.F ht⟩) hS.2.2 dX6_agreeing_15
def f_X6_low (M : Mem)  : Int64 × Mem := bnd (f_X6_intersect M  ) fun M_1 => if gI M_1 (7) = (0 : Int32) then bnd2 (f_X6_refused M_1  (1 : Int32)) fun r_4 M_3 => ((0 : Int64), M_3) else bnd2 (f_X6_refused M_1  (0 : Int32)) fun r_8 M_7 => (gL M_7 (4), M_7)
theorem hyX6_low : yX6_low.cls ≠ "java/lang/invoke/MethodHandle" ∧ yX6_low.cls ≠ "java/lang/invoke/VarHandle" ∧ (parseMethodDescriptor yX6_low.desc).map (fun d => d.parameters.length) = some 0 := by decide +kernel
set_option maxHeartbeats 4000000 in
set_option maxRecDepth 100000 in
theorem c_X6_low (l : Launch) (dC : Nat → ClassId) (dI : Nat → Nat → Nat) (cA : Nat → ClassId) (ad : Nat → Nat) (hI : Inj 12 ad) (M : Mem) (hw0 : WFm M)  : Met l yX6_low (.code yX6_low cX6_low 1 (some .long) :: AG) ({ frames := 7, cells := 0, slots := 0, locals := 160 } : Room) (va_Pc [.ref (ad (0))] (PM dC dI cA ad M)) (va_Ql (fun r u => (r, u) = f_X6_low M  ∧ WFm u) (PM dC dI cA ad) (adS 12 ad)) 0 0 (adS 12 ad) := by
  refine cMet (by decide) (Nat.le_of_ble_eq_true rfl) ?_
  intro p e s m below meth c ls hx hb hr hml hlocks hown hts hK hP hS hl
  have hA : ∀ q, adS 12 ad q → adS 12 ad q := fun _ h => h
  have hl : lv_has ls 1 [(0, .ref (ad (0)))] := hl
  obtain ⟨V, eV⟩ : ∃ z, z = f_X6_low M  := ⟨_, rfl⟩
  have hv := eV
  unfold f_X6_low at hv
  refine lv_aload_n hx hb dX6_low_0 rfl (lv_at hl 0 rfl) ?_
  refine kVv hx hb hml hown hts hK hP hS hA (As := []) (rest := []) (c_X6_intersect l dC dI cA ad hI M   hw0 ) (mkV hts q_1057 q_53 q_1054 q_1056 q_35 hyX6_intersect rfl rfl ⟨(Nat.le_of_ble_eq_true rfl), (Nat.le_of_ble_eq_true rfl)⟩) (w_recv hK hP (k := 0) (by decide) lyM0 (q := (RX6, TX6, 26)) rfl) rfl hl.1 rfl (Nat.le_of_ble_eq_true rfl) dX6_low_1 ⟨(Nat.le_of_ble_eq_true rfl), (Nat.le_of_ble_eq_true rfl)⟩ (fun u H locs hw hP hS _ _ => ?_)
  obtain ⟨M_1, eM_1⟩ : ∃ z, z = u := ⟨_, rfl⟩
  rw [← eM_1] at hP hw
  obtain ⟨hw, wM_1⟩ := hw
  have gM_1 := hw
  have hv := bnd_name hv hw
  refine lv_aload_n hx hb dX6_low_4 rfl (lv_at hl 0 rfl) ?_
  refine lv_aload_n hx hb dX6_low_5 rfl (lv_at hl 0 rfl) ?_
  refine fg_X6_178 hx hb hts hK hP hown dX6_low_6 ?_
  refine j0_ne (tgt := 16) hx hb dX6_low_9 (by decide) (fun c_2 => ?_) (fun c_2 => ?_)
  · have hv := hv.trans (if_pos c_2)
    refine lv_iconst (v := 1) hx hb dX6_low_12 (by decide) ?_
    refine lv_goto (tgt := 17) hx hb dX6_low_13 (by decide) ?_
    refine kVi hx hb hml hown hts hK hP hS hA (As := [.int (1 : Int32)]) (rest := []) (c_X6_refused l dC dI cA ad hI M_1  (1 : Int32) wM_1 ) (mkV hts q_913 q_53 q_910 q_912 q_24 hyX6_refused rfl rfl ⟨(Nat.le_of_ble_eq_true rfl), (Nat.le_of_ble_eq_true rfl)⟩) (w_recv hK hP (k := 0) (by decide) lyM0 (q := (RX6, TX6, 26)) rfl) rfl hl.1 rfl (Nat.le_of_ble_eq_true rfl) dX6_low_17 ⟨(Nat.le_of_ble_eq_true rfl), (Nat.le_of_ble_eq_true rfl)⟩ (fun r u H locs hw hP hS _ _ => ?_)
    obtain ⟨M_3, eM_3⟩ : ∃ z, z = u := ⟨_, rfl⟩
    rw [← eM_3] at hP hw
    obtain ⟨r_4, er_4⟩ : ∃ z, z = r := ⟨_, rfl⟩
    rw [← er_4] at hw
    refine w_eqi er_4.symm ?_
    obtain ⟨hw, wM_3⟩ := hw
    have gM_3 := hw
    have hv := bnd2_name hv hw
    have lr_4 : r_4 = 1 := congrArg Prod.fst hw
    refine w_eqi lr_4 ?_
    refine j0_eq (tgt := 27) hx hb dX6_low_20 (by decide) (fun c_6 => absurd c_6 (by decide)) (fun _ => ?_)
    refine lv_lconst (v := 0) hx hb dX6_low_23 (by decide) ?_
    refine lv_goto (tgt := 31) hx hb dX6_low_24 (by decide) ?_
    exact W.lret (v := (0 : Int64)) hx hb hr (fun t ht hW => ⟨⟨_, M_3, rfl, ⟨hv.symm.trans eV, wM_3⟩, by rw [ht]; exact hP, va_K.moved hW.alike hK⟩, hS.F ht⟩) hS.2.2 dX6_low_31
  · have hv := hv.trans (if_neg c_2)
    refine lv_iconst (v := 0) hx hb dX6_low_16 (by decide) ?_
    refine kVi hx hb hml hown hts hK hP hS hA (As := [.int (0 : Int32)]) (rest := []) (c_X6_refused l dC dI cA ad hI M_1  (0 : Int32) wM_1 ) (mkV hts q_913 q_53 q_910 q_912 q_24 hyX6_refused rfl rfl ⟨(Nat.le_of_ble_eq_true rfl), (Nat.le_of_ble_eq_true rfl)⟩) (w_recv hK hP (k := 0) (by decide) lyM0 (q := (RX6, TX6, 26)) rfl) rfl hl.1 rfl (Nat.le_of_ble_eq_true rfl) dX6_low_17 ⟨(Nat.le_of_ble_eq_true rfl), (Nat.le_of_ble_eq_true rfl)⟩ (fun r u H locs hw hP hS _ _ => ?_)
    obtain ⟨M_7, eM_7⟩ : ∃ z, z = u := ⟨_, rfl⟩
    rw [← eM_7] at hP hw
    obtain ⟨r_8, er_8⟩ : ∃ z, z = r := ⟨_, rfl⟩
    rw [← er_8] at hw
    refine w_eqi er_8.symm ?_
    obtain ⟨hw, wM_7⟩ := hw
    have gM_7 := hw
    have hv := bnd2_name hv hw
    have lr_8 : r_8 = 0 := congrArg Prod.fst hw
    refine w_eqi lr_8 ?_
    refine j0_eq (tgt := 27) hx hb dX6_low_20 (by decide) (fun _ => ?_) (fun c_10 => absurd (by decide) c_10)
    refine lv_aload_n hx hb dX6_low_27 rfl (lv_at hl 0 rfl) ?_
    refine fg_X6_188 hx hb hts hK hP hown dX6_low_28 ?_
    exact W.lret (v := gL M_7 (4)) hx hb hr (fun t ht hW => ⟨⟨_, M_7, rfl, ⟨hv.symm.trans eV, wM_7⟩, by rw [ht]; exact hP, va_K.moved hW.alike hK⟩, hS.F ht⟩) hS.2.2 dX6_low_31
def f_X6_high (M : Mem)  : Int64 × Mem := bnd (f_X6_intersect M  ) fun M_1 => if gI M_1 (7) = (0 : Int32) then bnd2 (f_X6_refused M_1  (1 : Int32)) fun r_4 M_3 => ((0 : Int64), M_3) else bnd2 (f_X6_refused M_1  (0 : Int32)) fun r_8 M_7 => (gL M_7 (5), M_7)
theorem hyX6_high : yX6_high.cls ≠ "java/lang/invoke/MethodHandle" ∧ yX6_high.cls ≠ "java/lang/invoke/VarHandle" ∧ (parseMethodDescriptor yX6_high.desc).map (fun d => d.parameters.length) = some 0 := by decide +kernel
set_option maxHeartbeats 4000000 in
set_option maxRecDepth 100000 in
theorem c_X6_high (l : Launch) (dC : Nat → ClassId) (dI : Nat → Nat → Nat) (cA : Nat → ClassId) (ad : Nat → Nat) (hI : Inj 12 ad) (M : Mem) (hw0 : WFm M)  : Met l yX6_high (.code yX6_high cX6_high 1 (some .long) :: AG) ({ frames := 7, cells := 0, slots := 0, locals := 160 } : Room) (va_Pc [.ref (ad (0))] (PM dC dI cA ad M)) (va_Ql (fun r u => (r, u) = f_X6_high M  ∧ WFm u) (PM dC dI cA ad) (adS 12 ad)) 0 0 (adS 12 ad) := by
  refine cMet (by decide) (Nat.le_of_ble_eq_true rfl) ?_
  intro p e s m below meth c ls hx hb hr hml hlocks hown hts hK hP hS hl
  have hA : ∀ q, adS 12 ad q → adS 12 ad q := fun _ h => h
  have hl : lv_has ls 1 [(0, .ref (ad (0)))] := hl
  obtain ⟨V, eV⟩ : ∃ z, z = f_X6_high M  := ⟨_, rfl⟩
  have hv := eV
  unfold f_X6_high at hv
  refine lv_aload_n hx hb dX6_high_0 rfl (lv_at hl 0 rfl) ?_
  refine kVv hx hb hml hown hts hK hP hS hA (As := []) (rest := []) (c_X6_intersect l dC dI cA ad hI M   hw0 ) (mkV hts q_1057 q_53 q_1054 q_1056 q_35 hyX6_intersect rfl rfl ⟨(Nat.le_of_ble_eq_true rfl), (Nat.le_of_ble_eq_true rfl)⟩) (w_recv hK hP (k := 0) (by decide) lyM0 (q := (RX6, TX6, 26)) rfl) rfl hl.1 rfl (Nat.le_of_ble_eq_true rfl) dX6_high_1 ⟨(Nat.le_of_ble_eq_true rfl), (Nat.le_of_ble_eq_true rfl)⟩ (fun u H locs hw hP hS _ _ => ?_)
  obtain ⟨M_1, eM_1⟩ : ∃ z, z = u := ⟨_, rfl⟩
  rw [← eM_1] at hP hw
  obtain ⟨hw, wM_1⟩ := hw
  have gM_1 := hw
  have hv := bnd_name hv hw
  refine lv_aload_n hx hb dX6_high_4 rfl (lv_at hl 0 rfl) ?_
  refine lv_aload_n hx hb dX6_high_5 rfl (lv_at hl 0 rfl) ?_
  refine fg_X6_178 hx hb hts hK hP hown dX6_high_6 ?_
  refine j0_ne (tgt := 16) hx hb dX6_high_9 (by decide) (fun c_2 => ?_) (fun c_2 => ?_)
  · have hv := hv.trans (if_pos c_2)
    refine lv_iconst (v := 1) hx hb dX6_high_12 (by decide) ?_
    refine lv_goto (tgt := 17) hx hb dX6_high_13 (by decide) ?_
    refine kVi hx hb hml hown hts hK hP hS hA (As := [.int (1 : Int32)]) (rest := []) (c_X6_refused l dC dI cA ad hI M_1  (1 : Int32) wM_1 ) (mkV hts q_913 q_53 q_910 q_912 q_24 hyX6_refused rfl rfl ⟨(Nat.le_of_ble_eq_true rfl), (Nat.le_of_ble_eq_true rfl)⟩) (w_recv hK hP (k := 0) (by decide) lyM0 (q := (RX6, TX6, 26)) rfl) rfl hl.1 rfl (Nat.le_of_ble_eq_true rfl) dX6_high_17 ⟨(Nat.le_of_ble_eq_true rfl), (Nat.le_of_ble_eq_true rfl)⟩ (fun r u H locs hw hP hS _ _ => ?_)
    obtain ⟨M_3, eM_3⟩ : ∃ z, z = u := ⟨_, rfl⟩
    rw [← eM_3] at hP hw
    obtain ⟨r_4, er_4⟩ : ∃ z, z = r := ⟨_, rfl⟩
    rw [← er_4] at hw
    refine w_eqi er_4.symm ?_
    obtain ⟨hw, wM_3⟩ := hw
    have gM_3 := hw
    have hv := bnd2_name hv hw
    have lr_4 : r_4 = 1 := congrArg Prod.fst hw
    refine w_eqi lr_4 ?_
    refine j0_eq (tgt := 27) hx hb dX6_high_20 (by decide) (fun c_6 => absurd c_6 (by decide)) (fun _ => ?_)
    refine lv_lconst (v := 0) hx hb dX6_high_23 (by decide) ?_
    refine lv_goto (tgt := 31) hx hb dX6_high_24 (by decide) ?_
    exact W.lret (v := (0 : Int64)) hx hb hr (fun t ht hW => ⟨⟨_, M_3, rfl, ⟨hv.symm.trans eV, wM_3⟩, by rw [ht]; exact hP, va_K.moved hW.alike hK⟩, hS.F ht⟩) hS.2.2 dX6_high_31
  · have hv := hv.trans (if_neg c_2)
    refine lv_iconst (v := 0) hx hb dX6_high_16 (by decide) ?_
    refine kVi hx hb hml hown hts hK hP hS hA (As := [.int (0 : Int32)]) (rest := []) (c_X6_refused l dC dI cA ad hI M_1  (0 : Int32) wM_1 ) (mkV hts q_913 q_53 q_910 q_912 q_24 hyX6_refused rfl rfl ⟨(Nat.le_of_ble_eq_true rfl), (Nat.le_of_ble_eq_true rfl)⟩) (w_recv hK hP (k := 0) (by decide) lyM0 (q := (RX6, TX6, 26)) rfl) rfl hl.1 rfl (Nat.le_of_ble_eq_true rfl) dX6_high_17 ⟨(Nat.le_of_ble_eq_true rfl), (Nat.le_of_ble_eq_true rfl)⟩ (fun r u H locs hw hP hS _ _ => ?_)
    obtain ⟨M_7, eM_7⟩ : ∃ z, z = u := ⟨_, rfl⟩
    rw [← eM_7] at hP hw
    obtain ⟨r_8, er_8⟩ : ∃ z, z = r := ⟨_, rfl⟩
    rw [← er_8] at hw
    refine w_eqi er_8.symm ?_
    obtain ⟨hw, wM_7⟩ := hw
    have gM_7 := hw
    have hv := bnd2_name hv hw
    have lr_8 : r_8 = 0 := congrArg Prod.fst hw
    refine w_eqi lr_8 ?_
    refine j0_eq (tgt := 27) hx hb dX6_high_20 (by decide) (fun _ => ?_) (fun c_10 => absurd (by decide) c_10)
    refine lv_aload_n hx hb dX6_high_27 rfl (lv_at hl 0 rfl) ?_
    refine fg_X6_191 hx hb hts hK hP hown dX6_high_28 ?_
    exact W.lret (v := gL M_7 (5)) hx hb hr (fun t ht hW => ⟨⟨_, M_7, rfl, ⟨hv.symm.trans eV, wM_7⟩, by rw [ht]; exact hP, va_K.moved hW.alike hK⟩, hS.F ht⟩) hS.2.2 dX6_high_31
def f_X6_survivors (M : Mem)  : Int32 × Mem := bnd (f_X6_select M  ) fun M_1 => bnd (f_X6_set M_1  7) fun r_2 => bnd2 (f_X6_fine M_1  r_2) fun r_4 M_3 => (r_4, M_3)
theorem hyX6_survivors : yX6_survivors.cls ≠ "java/lang/invoke/MethodHandle" ∧ yX6_survivors.cls ≠ "java/lang/invoke/VarHandle" ∧ (parseMethodDescriptor yX6_survivors.desc).map (fun d => d.parameters.length) = some 0 := by decide +kernel
set_option maxHeartbeats 4000000 in
set_option maxRecDepth 100000 in
theorem c_X6_survivors (l : Launch) (dC : Nat → ClassId) (dI : Nat → Nat → Nat) (cA : Nat → ClassId) (ad : Nat → Nat) (hI : Inj 12 ad) (M : Mem) (hw0 : WFm M)  : Met l yX6_survivors (.code yX6_survivors cX6_survivors 1 (some .int) :: AG) ({ frames := 8, cells := 0, slots := 0, locals := 181 } : Room) (va_Pc [.ref (ad (0))] (PM dC dI cA ad M)) (va_Qi (fun r u => (r, u) = f_X6_survivors M  ∧ WFm u) (PM dC dI cA ad) (adS 12 ad)) 0 0 (adS 12 ad) := by
  refine cMet (by decide) (Nat.le_of_ble_eq_true rfl) ?_
  intro p e s m below meth c ls hx hb hr hml hlocks hown hts hK hP hS hl
  have hA : ∀ q, adS 12 ad q → adS 12 ad q := fun _ h => h
  have hl : lv_has ls 1 [(0, .ref (ad (0)))] := hl
  obtain ⟨V, eV⟩ : ∃ z, z = f_X6_survivors M  := ⟨_, rfl⟩
  have hv := eV
  unfold f_X6_survivors at hv
  refine lv_aload_n hx hb dX6_survivors_0 rfl (lv_at hl 0 rfl) ?_
  refine kVv hx hb hml hown hts hK hP hS hA (As := []) (rest := []) (c_X6_select l dC dI cA ad hI M   hw0 ) (mkV hts q_1100 q_53 q_1097 q_1099 q_40 hyX6_select rfl rfl ⟨(Nat.le_of_ble_eq_true rfl), (Nat.le_of_ble_eq_true rfl)⟩) (w_recv hK hP (k := 0) (by decide) lyM0 (q := (RX6, TX6, 26)) rfl) rfl hl.1 rfl (Nat.le_of_ble_eq_true rfl) dX6_survivors_1 ⟨(Nat.le_of_ble_eq_true rfl), (Nat.le_of_ble_eq_true rfl)⟩ (fun u H locs hw hP hS _ _ => ?_)
  obtain ⟨M_1, eM_1⟩ : ∃ z, z = u := ⟨_, rfl⟩
  rw [← eM_1] at hP hw
  obtain ⟨hw, wM_1⟩ := hw
  have gM_1 := hw
  have hv := bnd_name hv hw
  refine lv_aload_n hx hb dX6_survivors_4 rfl (lv_at hl 0 rfl) ?_
  refine lv_aload_n hx hb dX6_survivors_5 rfl (lv_at hl 0 rfl) ?_
  refine fg_X6_46 hx hb hts hK hP hown dX6_survivors_6 ?_
  refine kTi hx hb hml hown hts hK hP hS hA (As := [.ref (ad (11))]) (rest := [.ref (ad (0))]) (c_X6_set l dC dI cA ad hI M_1 11 7 (by decide) lyM11 wM_1 ) (mkS hts q_1084 q_53 q_1082 q_1083 hyX6_set rfl rfl ⟨(Nat.le_of_ble_eq_true rfl), (Nat.le_of_ble_eq_true rfl)⟩) rfl hl.1 rfl (Nat.le_of_ble_eq_true rfl) dX6_survivors_9 ⟨(Nat.le_of_ble_eq_true rfl), (Nat.le_of_ble_eq_true rfl)⟩ (fun r u H locs hw hP hS _ _ => ?_)
  obtain ⟨hw, hu⟩ := hw
  rw [hu] at hP
  have hv := bnd_name hv hw
  obtain ⟨r_2, er_2⟩ : ∃ z, z = r := ⟨_, rfl⟩
  rw [← er_2] at hv hw
  refine w_eqi er_2.symm ?_
  have gr_2 := hw
  refine kVi hx hb hml hown hts hK hP hS hA (As := [.int r_2]) (rest := []) (c_X6_fine l dC dI cA ad hI M_1  r_2 wM_1 ) (mkV hts q_965 q_53 q_962 q_964 q_28 hyX6_fine rfl rfl ⟨(Nat.le_of_ble_eq_true rfl), (Nat.le_of_ble_eq_true rfl)⟩) (w_recv hK hP (k := 0) (by decide) lyM0 (q := (RX6, TX6, 26)) rfl) rfl hl.1 rfl (Nat.le_of_ble_eq_true rfl) dX6_survivors_12 ⟨(Nat.le_of_ble_eq_true rfl), (Nat.le_of_ble_eq_true rfl)⟩ (fun r u H locs hw hP hS _ _ => ?_)
  obtain ⟨M_3, eM_3⟩ : ∃ z, z = u := ⟨_, rfl⟩
  rw [← eM_3] at hP hw
  obtain ⟨r_4, er_4⟩ : ∃ z, z = r := ⟨_, rfl⟩
  rw [← er_4] at hw
  refine w_eqi er_4.symm ?_
  obtain ⟨hw, wM_3⟩ := hw
  have gM_3 := hw
  have hv := bnd2_name hv hw
  exact W.iret (v := r_4) hx hb hr (fun t ht hW => ⟨⟨_, M_3, rfl, ⟨hv.symm.trans eV, wM_3⟩, by rw [ht]; exact hP, va_K.moved hW.alike hK⟩, hS.F ht⟩) hS.2.2 dX6_survivors_15
def f_X6_combined_L7 (M : Mem)  : Nat → Nat → Int64 → Int64 → Int64
  | 0, _, _, _ => 0
  | r + 1, i, y3_7, y1_7 => if nI i < (8 : Int32) then if gB M 7 (i) = (0 : Int32) then f_X6_combined_L7 M  r (i + 1) y3_7 y1_7 else bnd (f_X6_distanceOf M  (i)) fun r_4 => bnd (((1000000 : Int64) / (r_4 + (1 : Int64)))) fun x_5 => if x_5 < (1 : Int64) then bnd (f_X6_best M  (i)) fun r_7 => bnd ((y1_7 + ((1 : Int64) * gJ M 0 (r_7).toNatClampNeg))) fun x_8 => bnd ((y3_7 + (1 : Int64))) fun x_9 => f_X6_combined_L7 M  r (i + 1) x_9 x_8 else bnd (f_X6_best M  (i)) fun r_10 => bnd ((y1_7 + (x_5 * gJ M 0 (r_10).toNatClampNeg))) fun x_11 => bnd ((y3_7 + x_5)) fun x_12 => f_X6_combined_L7 M  r (i + 1) x_12 x_11 else bnd ((f_X6_down y1_7 y3_7)) fun x_13 => x_13
def f_X6_combined (M : Mem)  : Int64 := f_X6_combined_L7 M  (8 + 1 - 0) 0 (0 : Int64) (0 : Int64)
theorem hyX6_combined : yX6_combined.cls ≠ "java/lang/invoke/MethodHandle" ∧ yX6_combined.cls ≠ "java/lang/invoke/VarHandle" ∧ (parseMethodDescriptor yX6_combined.desc).map (fun d => d.parameters.length) = some 0 := by decide +kernel
set_option maxHeartbeats 4000000 in
set_option maxRecDepth 100000 in
theorem c_X6_combined (l : Launch) (dC : Nat → ClassId) (dI : Nat → Nat → Nat) (cA : Nat → ClassId) (ad : Nat → Nat) (hI : Inj 12 ad) (M : Mem) (hw0 : WFm M) (hsv : ∃ j, j < 8 ∧ ¬ gB M 7 j = 0) (hdi : ∀ j, j < 8 → ¬ gB M 7 j = 0 → ¬ f_X6_distanceOf M j + 1 = 0) : Met l yX6_combined (.code yX6_combined cX6_combined 8 (some .long) :: AG) ({ frames := 3, cells := 0, slots := 0, locals := 69 } : Room) (va_Pc [.ref (ad (0))] (PM dC dI cA ad M)) (va_Ql (fun r u => r = f_X6_combined M  ∧ u = M) (PM dC dI cA ad) (adS 12 ad)) 0 0 (adS 12 ad) := by
  refine cMet (by decide) (Nat.le_of_ble_eq_true rfl) ?_
  intro p e s m below meth c ls hx hb hr hml hlocks hown hts hK hP hS hl
  have hA : ∀ q, adS 12 ad q → adS 12 ad q := fun _ h => h
  have hl : lv_has ls 8 [(0, .ref (ad (0)))] := hl
  obtain ⟨V, eV⟩ : ∃ z, z = f_X6_combined M  := ⟨_, rfl⟩
  have hv := eV
  unfold f_X6_combined at hv
  refine lv_lconst (v := 0) hx hb dX6_combined_0 (by decide) ?_
  refine lv_lstore_n (lv' := [(1, .long (0 : Int64)), (0, .ref (ad (0)))]) hx hb dX6_combined_1 rfl hl (by decide) rfl (fun ls hl => ?_)
  refine lv_lconst (v := 0) hx hb dX6_combined_2 (by decide) ?_
  refine lv_lstore_n (lv' := [(3, .long (0 : Int64)), (1, .long (0 : Int64)), (0, .ref (ad (0)))]) hx hb dX6_combined_3 rfl hl (by decide) rfl (fun ls hl => ?_)
  refine lv_iconst (v := 0) hx hb dX6_combined_4 (by decide) ?_
  refine lv_istore (lv' := [(5, .int (0 : Int32)), (3, .long (0 : Int64)), (1, .long (0 : Int64)), (0, .ref (ad (0)))]) hx hb dX6_combined_5 hl (by decide) rfl (fun ls hl => ?_)
  have L7 : ∀ (r i : Nat) (y3_7 : Int64) (y1_7 : Int64) (H : Heap) (locs : List Loc) (ls : Array Slot), i + r = 8 + 1 → i ≤ 8 → (WI M i y3_7) → V = f_X6_combined_L7 M  r i y3_7 y1_7 → va_P (dC, dI) vwCl (wld 12 layM cA ad M) H → va_S (adS 12 ad) s.heap H locs → lv_has ls 8 [(5, .int (nI i)), (3, .long y3_7), (1, .long y1_7), (0, .ref (ad (0)))] → W p l e ({ frames := 3, cells := 0, slots := 0, locals := 69 } : Room) s m ([.ref (ad (0))] : List Value).toArray below meth c H locs 0 0 (MQ below (va_Ql (fun r u => r = f_X6_combined M  ∧ u = M) (PM dC dI cA ad) (adS 12 ad)) ([.ref (ad (0))] : List Value).toArray s 0 0 (adS 12 ad)) (F0 m 7 ls []) := by
    intro r
    induction r with
    | zero =>
      intro i y3_7 y1_7 H locs ls hir hib
      omega
    | succ r ih =>
      intro i y3_7 y1_7 H locs ls hir hib hx0_7 hv hP hS hl
      rw [f_X6_combined_L7] at hv
      refine lv_iload hx hb dX6_combined_7 (lv_at hl 0 rfl) ?_
      refine lv_bipush (v := 8) hx hb dX6_combined_9 (by decide) ?_
      refine jI_ge (tgt := 81) hx hb dX6_combined_11 (by decide) (fun c_1 => ?_) (fun c_1 => ?_)
      · have hv := hv.trans (if_pos c_1)
        have hc_1 : i < 8 := nI_lt8 (n := 8) c_1 (by omega) (by decide)
        refine lv_aload_n hx hb dX6_combined_14 rfl (lv_at hl 3 rfl) ?_
        refine fg_X6_46 hx hb hts hK hP hown dX6_combined_15 ?_
        refine lv_iload hx hb dX6_combined_18 (lv_at hl 0 rfl) ?_
        refine w_zaldN hx hb hK hP (k := 11) (by decide) lyM11 (i := i) (by omega) (by decide) dX6_combined_20 ?_
        have bo_2 := hw0.2.2.2 (i) (by omega)
        refine j0_eq (tgt := 75) hx hb dX6_combined_21 (by decide) (fun c_3 => ?_) (fun c_3 => ?_)
        · have hv := hv.trans (if_pos c_3)
          refine lv_iinc (v := nI (i + 1)) (lv' := [(5, .int (nI (i + 1))), (3, .long y3_7), (1, .long y1_7), (0, .ref (ad (0)))]) hx hb dX6_combined_75 hl (k := 0) rfl (show nI (i) + 1 = nI (i + 1) from nI_1 _) (by decide) rfl (fun ls hl => ?_)
          refine lv_goto (tgt := 7) hx hb dX6_combined_78 (by decide) ?_
          exact ih (i + 1) y3_7 y1_7 _ _ _ (by omega) (by omega) (WI_skip hx0_7 c_3) hv hP hS (lv_sub hl [0, 1, 2, 3] rfl)
        · have hv := hv.trans (if_neg c_3)
          refine lv_ldc2 (v := 1000000) hx hb hown (hts _ q_914) dX6_combined_24 ?_
          refine lv_aload_n hx hb dX6_combined_27 rfl (lv_at hl 3 rfl) ?_
          refine lv_iload hx hb dX6_combined_28 (lv_at hl 0 rfl) ?_
          refine kVl hx hb hml hown hts hK hP hS hA (As := [.int (nI i)]) (rest := [.long (1000000 : Int64)]) (c_X6_distanceOf l dC dI cA ad hI M  (i) (by omega) hw0 ) (mkV hts q_1048 q_53 q_1045 q_1047 q_34 hyX6_distanceOf rfl rfl ⟨(Nat.le_of_ble_eq_true rfl), (Nat.le_of_ble_eq_true rfl)⟩) (w_recv hK hP (k := 0) (by decide) lyM0 (q := (RX6, TX6, 26)) rfl) rfl hl.1 rfl (Nat.le_of_ble_eq_true rfl) dX6_combined_30 ⟨(Nat.le_of_ble_eq_true rfl), (Nat.le_of_ble_eq_true rfl)⟩ (fun r u H locs hw hP hS _ _ => ?_)
          obtain ⟨hw, hu⟩ := hw
          rw [hu] at hP
          have hv := bnd_name hv hw
          obtain ⟨r_4, er_4⟩ : ∃ z, z = r := ⟨_, rfl⟩
          rw [← er_4] at hv hw
          refine w_eql er_4.symm ?_
          have gr_4 := hw
          refine lv_lconst (v := 1) hx hb dX6_combined_33 (by decide) ?_
          refine lv_ladd hx hb dX6_combined_34 ?_
          refine lv_ldiv hx hb dX6_combined_35 (by rw [gr_4]; exact hdi i (by omega) c_3) ?_
          refine lv_topl (fun x_5 ex_5 => ?_)
          have hv := bnd_name hv ex_5
          refine lv_lstore (lv' := [(6, .long x_5), (5, .int (nI i)), (3, .long y3_7), (1, .long y1_7), (0, .ref (ad (0)))]) hx hb dX6_combined_36 hl (by decide) rfl (fun ls hl => ?_)
          refine lv_lload hx hb dX6_combined_38 (lv_at hl 0 rfl) ?_
          refine lv_lconst (v := 1) hx hb dX6_combined_40 (by decide) ?_
          refine jL_ge (tgt := 49) hx hb dX6_combined_41 dX6_combined_42 (by decide) (fun c_6 => ?_) (fun c_6 => ?_)
          · have hv := hv.trans (if_pos c_6)
            refine lv_lconst (v := 1) hx hb dX6_combined_45 (by decide) ?_
            refine lv_goto (tgt := 51) hx hb dX6_combined_46 (by decide) ?_
            refine lv_lstore (lv' := [(6, .long (1 : Int64)), (5, .int (nI i)), (3, .long y3_7), (1, .long y1_7), (0, .ref (ad (0)))]) hx hb dX6_combined_51 hl (by decide) rfl (fun ls hl => ?_)
            refine lv_lload_n hx hb dX6_combined_53 rfl (lv_at hl 3 rfl) ?_
            refine lv_lload hx hb dX6_combined_54 (lv_at hl 0 rfl) ?_
            refine lv_aload_n hx hb dX6_combined_56 rfl (lv_at hl 4 rfl) ?_
            refine fg_X6_32 hx hb hts hK hP hown dX6_combined_57 ?_
            refine lv_aload_n hx hb dX6_combined_60 rfl (lv_at hl 4 rfl) ?_
            refine lv_iload hx hb dX6_combined_61 (lv_at hl 1 rfl) ?_
            refine kVi hx hb hml hown hts hK hP hS hA (As := [.int (nI i)]) (rest := [.ref (ad (7)), .long (1 : Int64), .long y1_7]) (c_X6_best l dC dI cA ad hI M  (i) (by omega) hw0 ) (mkV hts q_1025 q_53 q_1022 q_1024 q_32 hyX6_best rfl rfl ⟨(Nat.le_of_ble_eq_true rfl), (Nat.le_of_ble_eq_true rfl)⟩) (w_recv hK hP (k := 0) (by decide) lyM0 (q := (RX6, TX6, 26)) rfl) rfl hl.1 rfl (Nat.le_of_ble_eq_true rfl) dX6_combined_63 ⟨(Nat.le_of_ble_eq_true rfl), (Nat.le_of_ble_eq_true rfl)⟩ (fun r u H locs hw hP hS _ _ => ?_)
            obtain ⟨hw, hu, hxp⟩ := hw
            rw [hu] at hP
            have hv := bnd_name hv hw
            obtain ⟨r_7, er_7⟩ : ∃ z, z = r := ⟨_, rfl⟩
            rw [← er_7] at hv hw hxp
            refine w_eqi er_7.symm ?_
            have gr_7 := hw
            have pr_7 := hxp
            have hin := pr_7
            refine w_lald hx hb hK hP (k := 7) (by decide) lyM7 hin dX6_combined_66 ?_
            refine lv_lmul hx hb dX6_combined_67 ?_
            refine lv_ladd hx hb dX6_combined_68 ?_
            refine lv_topl (fun x_8 ex_8 => ?_)
            have hv := bnd_name hv ex_8
            refine lv_lstore_n (lv' := [(1, .long x_8), (6, .long (1 : Int64)), (5, .int (nI i)), (3, .long y3_7), (0, .ref (ad (0)))]) hx hb dX6_combined_69 rfl hl (by decide) rfl (fun ls hl => ?_)
            refine lv_lload_n hx hb dX6_combined_70 rfl (lv_at hl 3 rfl) ?_
            refine lv_lload hx hb dX6_combined_71 (lv_at hl 1 rfl) ?_
            refine lv_ladd hx hb dX6_combined_73 ?_
            refine lv_topl (fun x_9 ex_9 => ?_)
            have hv := bnd_name hv ex_9
            refine lv_lstore_n (lv' := [(3, .long x_9), (1, .long x_8), (6, .long (1 : Int64)), (5, .int (nI i)), (0, .ref (ad (0)))]) hx hb dX6_combined_74 rfl hl (by decide) rfl (fun ls hl => ?_)
            refine lv_iinc (v := nI (i + 1)) (lv' := [(5, .int (nI (i + 1))), (3, .long x_9), (1, .long x_8), (6, .long (1 : Int64)), (0, .ref (ad (0)))]) hx hb dX6_combined_75 hl (k := 3) rfl (show nI (i) + 1 = nI (i + 1) from nI_1 _) (by decide) rfl (fun ls hl => ?_)
            refine lv_goto (tgt := 7) hx hb dX6_combined_78 (by decide) ?_
            exact ih (i + 1) x_9 x_8 _ _ _ (by omega) (by omega) (WI_add hx0_7 (by omega) (by decide) (by decide) ex_9) hv hP hS (lv_sub hl [0, 1, 2, 4] rfl)
          · have hv := hv.trans (if_neg c_6)
            refine lv_lload hx hb dX6_combined_49 (lv_at hl 0 rfl) ?_
            refine lv_lstore (lv' := [(6, .long x_5), (5, .int (nI i)), (3, .long y3_7), (1, .long y1_7), (0, .ref (ad (0)))]) hx hb dX6_combined_51 hl (by decide) rfl (fun ls hl => ?_)
            refine lv_lload_n hx hb dX6_combined_53 rfl (lv_at hl 3 rfl) ?_
            refine lv_lload hx hb dX6_combined_54 (lv_at hl 0 rfl) ?_
            refine lv_aload_n hx hb dX6_combined_56 rfl (lv_at hl 4 rfl) ?_
            refine fg_X6_32 hx hb hts hK hP hown dX6_combined_57 ?_
            refine lv_aload_n hx hb dX6_combined_60 rfl (lv_at hl 4 rfl) ?_
            refine lv_iload hx hb dX6_combined_61 (lv_at hl 1 rfl) ?_
            refine kVi hx hb hml hown hts hK hP hS hA (As := [.int (nI i)]) (rest := [.ref (ad (7)), .long x_5, .long y1_7]) (c_X6_best l dC dI cA ad hI M  (i) (by omega) hw0 ) (mkV hts q_1025 q_53 q_1022 q_1024 q_32 hyX6_best rfl rfl ⟨(Nat.le_of_ble_eq_true rfl), (Nat.le_of_ble_eq_true rfl)⟩) (w_recv hK hP (k := 0) (by decide) lyM0 (q := (RX6, TX6, 26)) rfl) rfl hl.1 rfl (Nat.le_of_ble_eq_true rfl) dX6_combined_63 ⟨(Nat.le_of_ble_eq_true rfl), (Nat.le_of_ble_eq_true rfl)⟩ (fun r u H locs hw hP hS _ _ => ?_)
            obtain ⟨hw, hu, hxp⟩ := hw
            rw [hu] at hP
            have hv := bnd_name hv hw
            obtain ⟨r_10, er_10⟩ : ∃ z, z = r := ⟨_, rfl⟩
            rw [← er_10] at hv hw hxp
            refine w_eqi er_10.symm ?_
            have gr_10 := hw
            have pr_10 := hxp
            have hin := pr_10
            refine w_lald hx hb hK hP (k := 7) (by decide) lyM7 hin dX6_combined_66 ?_
            refine lv_lmul hx hb dX6_combined_67 ?_
            refine lv_ladd hx hb dX6_combined_68 ?_
            refine lv_topl (fun x_11 ex_11 => ?_)
            have hv := bnd_name hv ex_11
            refine lv_lstore_n (lv' := [(1, .long x_11), (6, .long x_5), (5, .int (nI i)), (3, .long y3_7), (0, .ref (ad (0)))]) hx hb dX6_combined_69 rfl hl (by decide) rfl (fun ls hl => ?_)
            refine lv_lload_n hx hb dX6_combined_70 rfl (lv_at hl 3 rfl) ?_
            refine lv_lload hx hb dX6_combined_71 (lv_at hl 1 rfl) ?_
            refine lv_ladd hx hb dX6_combined_73 ?_
            refine lv_topl (fun x_12 ex_12 => ?_)
            have hv := bnd_name hv ex_12
            refine lv_lstore_n (lv' := [(3, .long x_12), (1, .long x_11), (6, .long x_5), (5, .int (nI i)), (0, .ref (ad (0)))]) hx hb dX6_combined_74 rfl hl (by decide) rfl (fun ls hl => ?_)
            refine lv_iinc (v := nI (i + 1)) (lv' := [(5, .int (nI (i + 1))), (3, .long x_12), (1, .long x_11), (6, .long x_5), (0, .ref (ad (0)))]) hx hb dX6_combined_75 hl (k := 3) rfl (show nI (i) + 1 = nI (i + 1) from nI_1 _) (by decide) rfl (fun ls hl => ?_)
            refine lv_goto (tgt := 7) hx hb dX6_combined_78 (by decide) ?_
            exact ih (i + 1) x_12 x_11 _ _ _ (by omega) (by omega) (WI_add hx0_7 (by omega) (wt_lo c_6) (by rw [ex_5]; exact wt_hi _) ex_12) hv hP hS (lv_sub hl [0, 1, 2, 4] rfl)
      · have hv := hv.trans (if_neg c_1)
        have hc_1 : ¬ i < 8 := fun h => c_1 (nI_lt h (by decide))
        refine lv_lload_n hx hb dX6_combined_81 rfl (lv_at hl 2 rfl) ?_
        refine lv_lload_n hx hb dX6_combined_82 rfl (lv_at hl 1 rfl) ?_
        refine kSl hx hb hml hown hts (As := [.long y1_7, .long y3_7]) (rest := []) (c_X6_down l y1_7 y3_7 (WI_ne hx0_7 (by omega) hsv)) (mkS hts q_931 q_53 q_929 q_930 hyX6_down rfl rfl ⟨(Nat.le_of_ble_eq_true rfl), (Nat.le_of_ble_eq_true rfl)⟩) rfl hl.1 rfl (Nat.le_of_ble_eq_true rfl) dX6_combined_83 ⟨(Nat.le_of_ble_eq_true rfl), (Nat.le_of_ble_eq_true rfl)⟩ ?_
        refine lv_topl (fun x_13 ex_13 => ?_)
        have hv := bnd_name hv ex_13
        exact W.lret (v := x_13) hx hb hr (fun t ht hW => ⟨⟨_, M, rfl, ⟨hv.symm.trans eV, rfl⟩, by rw [ht]; exact hP, va_K.moved hW.alike hK⟩, hS.F ht⟩) hS.2.2 dX6_combined_86
  exact L7 (8 + 1 - 0) 0 (0 : Int64) (0 : Int64) _ _ _ (by omega) (by omega) (WI_0) hv hP hS (lv_sub hl [0, 1, 2, 3] rfl)
def f_X6_combinedOffset (M : Mem)  : Int64 × Mem := bnd (f_X6_select M  ) fun M_1 => if gI M_1 (7) = (0 : Int32) then bnd2 (f_X6_refused M_1  (1 : Int32)) fun r_4 M_3 => ((0 : Int64), M_3) else bnd2 (f_X6_refused M_1  (0 : Int32)) fun r_8 M_7 => bnd (f_X6_combined M_7  ) fun r_11 => (r_11, M_7)
theorem hyX6_combinedOffset : yX6_combinedOffset.cls ≠ "java/lang/invoke/MethodHandle" ∧ yX6_combinedOffset.cls ≠ "java/lang/invoke/VarHandle" ∧ (parseMethodDescriptor yX6_combinedOffset.desc).map (fun d => d.parameters.length) = some 0 := by decide +kernel
set_option maxHeartbeats 4000000 in
set_option maxRecDepth 100000 in
theorem c_X6_combinedOffset (l : Launch) (dC : Nat → ClassId) (dI : Nat → Nat → Nat) (cA : Nat → ClassId) (ad : Nat → Nat) (hI : Inj 12 ad) (M : Mem) (hw0 : WFm M) (hsv0 : ∀ M1 : Mem, M1 = f_X6_select M → ¬ gI M1 7 = 0 → ∃ j, j < 8 ∧ ¬ gB M1 7 j = 0) (hdi0 : ∀ (M1 M2 : Mem) (r : Int32), M1 = f_X6_select M → (r, M2) = f_X6_refused M1 0 → ∀ j, j < 8 → ¬ gB M2 7 j = 0 → ¬ f_X6_distanceOf M2 j + 1 = 0) : Met l yX6_combinedOffset (.code yX6_combinedOffset cX6_combinedOffset 1 (some .long) :: AG) ({ frames := 8, cells := 0, slots := 0, locals := 181 } : Room) (va_Pc [.ref (ad (0))] (PM dC dI cA ad M)) (va_Ql (fun r u => (r, u) = f_X6_combinedOffset M  ∧ WFm u) (PM dC dI cA ad) (adS 12 ad)) 0 0 (adS 12 ad) := by
  refine cMet (by decide) (Nat.le_of_ble_eq_true rfl) ?_
  intro p e s m below meth c ls hx hb hr hml hlocks hown hts hK hP hS hl
  have hA : ∀ q, adS 12 ad q → adS 12 ad q := fun _ h => h
  have hl : lv_has ls 1 [(0, .ref (ad (0)))] := hl
  obtain ⟨V, eV⟩ : ∃ z, z = f_X6_combinedOffset M  := ⟨_, rfl⟩
  have hv := eV
  unfold f_X6_combinedOffset at hv
  refine lv_aload_n hx hb dX6_combinedOffset_0 rfl (lv_at hl 0 rfl) ?_
  refine kVv hx hb hml hown hts hK hP hS hA (As := []) (rest := []) (c_X6_select l dC dI cA ad hI M   hw0 ) (mkV hts q_1100 q_53 q_1097 q_1099 q_40 hyX6_select rfl rfl ⟨(Nat.le_of_ble_eq_true rfl), (Nat.le_of_ble_eq_true rfl)⟩) (w_recv hK hP (k := 0) (by decide) lyM0 (q := (RX6, TX6, 26)) rfl) rfl hl.1 rfl (Nat.le_of_ble_eq_true rfl) dX6_combinedOffset_1 ⟨(Nat.le_of_ble_eq_true rfl), (Nat.le_of_ble_eq_true rfl)⟩ (fun u H locs hw hP hS _ _ => ?_)
  obtain ⟨M_1, eM_1⟩ : ∃ z, z = u := ⟨_, rfl⟩
  rw [← eM_1] at hP hw
  obtain ⟨hw, wM_1⟩ := hw
  have gM_1 := hw
  have hv := bnd_name hv hw
  refine lv_aload_n hx hb dX6_combinedOffset_4 rfl (lv_at hl 0 rfl) ?_
  refine lv_aload_n hx hb dX6_combinedOffset_5 rfl (lv_at hl 0 rfl) ?_
  refine fg_X6_178 hx hb hts hK hP hown dX6_combinedOffset_6 ?_
  refine j0_ne (tgt := 16) hx hb dX6_combinedOffset_9 (by decide) (fun c_2 => ?_) (fun c_2 => ?_)
  · have hv := hv.trans (if_pos c_2)
    refine lv_iconst (v := 1) hx hb dX6_combinedOffset_12 (by decide) ?_
    refine lv_goto (tgt := 17) hx hb dX6_combinedOffset_13 (by decide) ?_
    refine kVi hx hb hml hown hts hK hP hS hA (As := [.int (1 : Int32)]) (rest := []) (c_X6_refused l dC dI cA ad hI M_1  (1 : Int32) wM_1 ) (mkV hts q_913 q_53 q_910 q_912 q_24 hyX6_refused rfl rfl ⟨(Nat.le_of_ble_eq_true rfl), (Nat.le_of_ble_eq_true rfl)⟩) (w_recv hK hP (k := 0) (by decide) lyM0 (q := (RX6, TX6, 26)) rfl) rfl hl.1 rfl (Nat.le_of_ble_eq_true rfl) dX6_combinedOffset_17 ⟨(Nat.le_of_ble_eq_true rfl), (Nat.le_of_ble_eq_true rfl)⟩ (fun r u H locs hw hP hS _ _ => ?_)
    obtain ⟨M_3, eM_3⟩ : ∃ z, z = u := ⟨_, rfl⟩
    rw [← eM_3] at hP hw
    obtain ⟨r_4, er_4⟩ : ∃ z, z = r := ⟨_, rfl⟩
    rw [← er_4] at hw
    refine w_eqi er_4.symm ?_
    obtain ⟨hw, wM_3⟩ := hw
    have gM_3 := hw
    have hgM_3 : gB M_3 7 = gB M_1 7 := congrArg (fun z : Int32 × Mem => gB z.2 7) hw
    have hv := bnd2_name hv hw
    have lr_4 : r_4 = 1 := congrArg Prod.fst hw
    refine w_eqi lr_4 ?_
    refine j0_eq (tgt := 27) hx hb dX6_combinedOffset_20 (by decide) (fun c_6 => absurd c_6 (by decide)) (fun _ => ?_)
    refine lv_lconst (v := 0) hx hb dX6_combinedOffset_23 (by decide) ?_
    refine lv_goto (tgt := 31) hx hb dX6_combinedOffset_24 (by decide) ?_
    exact W.lret (v := (0 : Int64)) hx hb hr (fun t ht hW => ⟨⟨_, M_3, rfl, ⟨hv.symm.trans eV, wM_3⟩, by rw [ht]; exact hP, va_K.moved hW.alike hK⟩, hS.F ht⟩) hS.2.2 dX6_combinedOffset_31
  · have hv := hv.trans (if_neg c_2)
    refine lv_iconst (v := 0) hx hb dX6_combinedOffset_16 (by decide) ?_
    refine kVi hx hb hml hown hts hK hP hS hA (As := [.int (0 : Int32)]) (rest := []) (c_X6_refused l dC dI cA ad hI M_1  (0 : Int32) wM_1 ) (mkV hts q_913 q_53 q_910 q_912 q_24 hyX6_refused rfl rfl ⟨(Nat.le_of_ble_eq_true rfl), (Nat.le_of_ble_eq_true rfl)⟩) (w_recv hK hP (k := 0) (by decide) lyM0 (q := (RX6, TX6, 26)) rfl) rfl hl.1 rfl (Nat.le_of_ble_eq_true rfl) dX6_combinedOffset_17 ⟨(Nat.le_of_ble_eq_true rfl), (Nat.le_of_ble_eq_true rfl)⟩ (fun r u H locs hw hP hS _ _ => ?_)
    obtain ⟨M_7, eM_7⟩ : ∃ z, z = u := ⟨_, rfl⟩
    rw [← eM_7] at hP hw
    obtain ⟨r_8, er_8⟩ : ∃ z, z = r := ⟨_, rfl⟩
    rw [← er_8] at hw
    refine w_eqi er_8.symm ?_
    obtain ⟨hw, wM_7⟩ := hw
    have gM_7 := hw
    have hgM_7 : gB M_7 7 = gB M_1 7 := congrArg (fun z : Int32 × Mem => gB z.2 7) hw
    have hv := bnd2_name hv hw
    have lr_8 : r_8 = 0 := congrArg Prod.fst hw
    refine w_eqi lr_8 ?_
    refine j0_eq (tgt := 27) hx hb dX6_combinedOffset_20 (by decide) (fun _ => ?_) (fun c_10 => absurd (by decide) c_10)
    refine lv_aload_n hx hb dX6_combinedOffset_27 rfl (lv_at hl 0 rfl) ?_
    refine kVl hx hb hml hown hts hK hP hS hA (As := []) (rest := []) (c_X6_combined l dC dI cA ad hI M_7   wM_7 (by rw [hgM_7]; exact hsv0 _ gM_1 c_2) (hdi0 _ _ _ gM_1 gM_7)) (mkV hts q_1120 q_53 q_1117 q_1119 q_44 hyX6_combined rfl rfl ⟨(Nat.le_of_ble_eq_true rfl), (Nat.le_of_ble_eq_true rfl)⟩) (w_recv hK hP (k := 0) (by decide) lyM0 (q := (RX6, TX6, 26)) rfl) rfl hl.1 rfl (Nat.le_of_ble_eq_true rfl) dX6_combinedOffset_28 ⟨(Nat.le_of_ble_eq_true rfl), (Nat.le_of_ble_eq_true rfl)⟩ (fun r u H locs hw hP hS _ _ => ?_)
    obtain ⟨hw, hu⟩ := hw
    rw [hu] at hP
    have hv := bnd_name hv hw
    obtain ⟨r_11, er_11⟩ : ∃ z, z = r := ⟨_, rfl⟩
    rw [← er_11] at hv hw
    refine w_eql er_11.symm ?_
    have gr_11 := hw
    exact W.lret (v := r_11) hx hb hr (fun t ht hW => ⟨⟨_, M_7, rfl, ⟨hv.symm.trans eV, wM_7⟩, by rw [ht]; exact hP, va_K.moved hW.alike hK⟩, hS.F ht⟩) hS.2.2 dX6_combinedOffset_31
def f_X6_leader_L4 (M : Mem)  : Nat → Nat → Int32 → Int32
  | 0, _, _ => 0
  | r + 1, i, y1_4 => if nI i < (8 : Int32) then if gB M 7 (i) = (0 : Int32) then f_X6_leader_L4 M  r (i + 1) y1_4 else if y1_4 = ((-1) : Int32) then f_X6_leader_L4 M  r (i + 1) (nI i) else if gB M 1 (i) < gB M 1 (y1_4).toNatClampNeg then f_X6_leader_L4 M  r (i + 1) (nI i) else if gB M 1 (i) = gB M 1 (y1_4).toNatClampNeg then bnd (f_X6_distanceOf M  (i)) fun r_9 => bnd (f_X6_distanceOf M  ((y1_4).toNatClampNeg)) fun r_10 => if r_9 < r_10 then f_X6_leader_L4 M  r (i + 1) (nI i) else f_X6_leader_L4 M  r (i + 1) y1_4 else f_X6_leader_L4 M  r (i + 1) y1_4 else y1_4
def f_X6_leader (M : Mem)  : Int32 := f_X6_leader_L4 M  (8 + 1 - 0) 0 ((-1) : Int32)
theorem hyX6_leader : yX6_leader.cls ≠ "java/lang/invoke/MethodHandle" ∧ yX6_leader.cls ≠ "java/lang/invoke/VarHandle" ∧ (parseMethodDescriptor yX6_leader.desc).map (fun d => d.parameters.length) = some 0 := by decide +kernel
set_option maxHeartbeats 4000000 in
set_option maxRecDepth 100000 in
theorem c_X6_leader (l : Launch) (dC : Nat → ClassId) (dI : Nat → Nat → Nat) (cA : Nat → ClassId) (ad : Nat → Nat) (hI : Inj 12 ad) (M : Mem) (hw0 : WFm M)  : Met l yX6_leader (.code yX6_leader cX6_leader 4 (some .int) :: AG) ({ frames := 3, cells := 0, slots := 0, locals := 69 } : Room) (va_Pc [.ref (ad (0))] (PM dC dI cA ad M)) (va_Qi (fun r u => r = f_X6_leader M  ∧ u = M ∧ ((r = -1 ∧ ∀ j, j < 8 → gB M 7 j = 0) ∨ vp_in r 8)) (PM dC dI cA ad) (adS 12 ad)) 0 0 (adS 12 ad) := by
  refine cMet (by decide) (Nat.le_of_ble_eq_true rfl) ?_
  intro p e s m below meth c ls hx hb hr hml hlocks hown hts hK hP hS hl
  have hA : ∀ q, adS 12 ad q → adS 12 ad q := fun _ h => h
  have hl : lv_has ls 4 [(0, .ref (ad (0)))] := hl
  obtain ⟨V, eV⟩ : ∃ z, z = f_X6_leader M  := ⟨_, rfl⟩
  have hv := eV
  unfold f_X6_leader at hv
  refine lv_iconst (v := (-1)) hx hb dX6_leader_0 (by decide) ?_
  refine lv_istore_n (lv' := [(1, .int ((-1) : Int32)), (0, .ref (ad (0)))]) hx hb dX6_leader_1 rfl hl (by decide) rfl (fun ls hl => ?_)
  refine lv_iconst (v := 0) hx hb dX6_leader_2 (by decide) ?_
  refine lv_istore_n (lv' := [(2, .int (0 : Int32)), (1, .int ((-1) : Int32)), (0, .ref (ad (0)))]) hx hb dX6_leader_3 rfl hl (by decide) rfl (fun ls hl => ?_)
  have L4 : ∀ (r i : Nat) (y1_4 : Int32) (H : Heap) (locs : List Loc) (ls : Array Slot), i + r = 8 + 1 → i ≤ 8 → ((y1_4 = -1 ∧ ∀ j, j < i → gB M 7 j = 0) ∨ vp_in y1_4 8) → V = f_X6_leader_L4 M  r i y1_4 → va_P (dC, dI) vwCl (wld 12 layM cA ad M) H → va_S (adS 12 ad) s.heap H locs → lv_has ls 4 [(2, .int (nI i)), (1, .int y1_4), (0, .ref (ad (0)))] → W p l e ({ frames := 3, cells := 0, slots := 0, locals := 69 } : Room) s m ([.ref (ad (0))] : List Value).toArray below meth c H locs 0 0 (MQ below (va_Qi (fun r u => r = f_X6_leader M  ∧ u = M ∧ ((r = -1 ∧ ∀ j, j < 8 → gB M 7 j = 0) ∨ vp_in r 8)) (PM dC dI cA ad) (adS 12 ad)) ([.ref (ad (0))] : List Value).toArray s 0 0 (adS 12 ad)) (F0 m 4 ls []) := by
    intro r
    induction r with
    | zero =>
      intro i y1_4 H locs ls hir hib
      omega
    | succ r ih =>
      intro i y1_4 H locs ls hir hib hx0_4 hv hP hS hl
      rw [f_X6_leader_L4] at hv
      refine lv_iload_n hx hb dX6_leader_4 rfl (lv_at hl 0 rfl) ?_
      refine lv_bipush (v := 8) hx hb dX6_leader_5 (by decide) ?_
      refine jI_ge (tgt := 90) hx hb dX6_leader_7 (by decide) (fun c_1 => ?_) (fun c_1 => ?_)
      · have hv := hv.trans (if_pos c_1)
        have hc_1 : i < 8 := nI_lt8 (n := 8) c_1 (by omega) (by decide)
        refine lv_aload_n hx hb dX6_leader_10 rfl (lv_at hl 2 rfl) ?_
        refine fg_X6_46 hx hb hts hK hP hown dX6_leader_11 ?_
        refine lv_iload_n hx hb dX6_leader_14 rfl (lv_at hl 0 rfl) ?_
        refine w_zaldN hx hb hK hP (k := 11) (by decide) lyM11 (i := i) (by omega) (by decide) dX6_leader_15 ?_
        have bo_2 := hw0.2.2.2 (i) (by omega)
        refine j0_eq (tgt := 84) hx hb dX6_leader_16 (by decide) (fun c_3 => ?_) (fun c_3 => ?_)
        · have hv := hv.trans (if_pos c_3)
          refine lv_iinc (v := nI (i + 1)) (lv' := [(2, .int (nI (i + 1))), (1, .int y1_4), (0, .ref (ad (0)))]) hx hb dX6_leader_84 hl (k := 0) rfl (show nI (i) + 1 = nI (i + 1) from nI_1 _) (by decide) rfl (fun ls hl => ?_)
          refine lv_goto (tgt := 4) hx hb dX6_leader_87 (by decide) ?_
          exact ih (i + 1) y1_4 _ _ _ (by omega) (by omega) (hx0_4.elim (fun h => Or.inl ⟨h.1, fun j hj => (Nat.lt_succ_iff_lt_or_eq.mp hj).elim (h.2 j) (fun e => e ▸ c_3)⟩) Or.inr) hv hP hS (lv_sub hl [0, 1, 2] rfl)
        · have hv := hv.trans (if_neg c_3)
          refine lv_iload_n hx hb dX6_leader_19 rfl (lv_at hl 1 rfl) ?_
          refine lv_iconst (v := (-1)) hx hb dX6_leader_20 (by decide) ?_
          refine jI_eq (tgt := 68) hx hb dX6_leader_21 (by decide) (fun c_4 => ?_) (fun c_4 => ?_)
          · have hv := hv.trans (if_pos c_4)
            refine lv_iconst (v := 1) hx hb dX6_leader_68 (by decide) ?_
            refine lv_goto (tgt := 73) hx hb dX6_leader_69 (by decide) ?_
            refine lv_istore_n (lv' := [(3, .int (1 : Int32)), (2, .int (nI i)), (1, .int y1_4), (0, .ref (ad (0)))]) hx hb dX6_leader_73 rfl hl (by decide) rfl (fun ls hl => ?_)
            refine lv_iload_n hx hb dX6_leader_74 rfl (lv_at hl 0 rfl) ?_
            refine j0_eq (tgt := 82) hx hb dX6_leader_75 (by decide) (fun c_5 => absurd c_5 (by decide)) (fun _ => ?_)
            refine lv_iload_n hx hb dX6_leader_78 rfl (lv_at hl 1 rfl) ?_
            refine lv_goto (tgt := 83) hx hb dX6_leader_79 (by decide) ?_
            refine lv_istore_n (lv' := [(1, .int (nI i)), (3, .int (1 : Int32)), (2, .int (nI i)), (0, .ref (ad (0)))]) hx hb dX6_leader_83 rfl hl (by decide) rfl (fun ls hl => ?_)
            refine lv_iinc (v := nI (i + 1)) (lv' := [(2, .int (nI (i + 1))), (1, .int (nI i)), (3, .int (1 : Int32)), (0, .ref (ad (0)))]) hx hb dX6_leader_84 hl (k := 2) rfl (show nI (i) + 1 = nI (i + 1) from nI_1 _) (by decide) rfl (fun ls hl => ?_)
            refine lv_goto (tgt := 4) hx hb dX6_leader_87 (by decide) ?_
            exact ih (i + 1) (nI i) _ _ _ (by omega) (by omega) (Or.inr (vp_in_nI (by omega) (by decide))) hv hP hS (lv_sub hl [0, 1, 3] rfl)
          · have hv := hv.trans (if_neg c_4)
            refine lv_aload_n hx hb dX6_leader_24 rfl (lv_at hl 2 rfl) ?_
            refine fg_X6_17 hx hb hts hK hP hown dX6_leader_25 ?_
            refine lv_iload_n hx hb dX6_leader_28 rfl (lv_at hl 0 rfl) ?_
            refine w_ialdN hx hb hK hP (k := 2) (by decide) lyM2 (i := i) (by omega) (by decide) dX6_leader_29 ?_
            refine lv_aload_n hx hb dX6_leader_30 rfl (lv_at hl 2 rfl) ?_
            refine fg_X6_17 hx hb hts hK hP hown dX6_leader_31 ?_
            refine lv_iload_n hx hb dX6_leader_34 rfl (lv_at hl 1 rfl) ?_
            have hin := (hx0_4.resolve_left (fun h => c_4 h.1))
            refine w_iald hx hb hK hP (k := 2) (by decide) lyM2 hin dX6_leader_35 ?_
            refine jI_lt (tgt := 68) hx hb dX6_leader_36 (by decide) (fun c_6 => ?_) (fun c_6 => ?_)
            · have hv := hv.trans (if_pos c_6)
              refine lv_iconst (v := 1) hx hb dX6_leader_68 (by decide) ?_
              refine lv_goto (tgt := 73) hx hb dX6_leader_69 (by decide) ?_
              refine lv_istore_n (lv' := [(3, .int (1 : Int32)), (2, .int (nI i)), (1, .int y1_4), (0, .ref (ad (0)))]) hx hb dX6_leader_73 rfl hl (by decide) rfl (fun ls hl => ?_)
              refine lv_iload_n hx hb dX6_leader_74 rfl (lv_at hl 0 rfl) ?_
              refine j0_eq (tgt := 82) hx hb dX6_leader_75 (by decide) (fun c_7 => absurd c_7 (by decide)) (fun _ => ?_)
              refine lv_iload_n hx hb dX6_leader_78 rfl (lv_at hl 1 rfl) ?_
              refine lv_goto (tgt := 83) hx hb dX6_leader_79 (by decide) ?_
              refine lv_istore_n (lv' := [(1, .int (nI i)), (3, .int (1 : Int32)), (2, .int (nI i)), (0, .ref (ad (0)))]) hx hb dX6_leader_83 rfl hl (by decide) rfl (fun ls hl => ?_)
              refine lv_iinc (v := nI (i + 1)) (lv' := [(2, .int (nI (i + 1))), (1, .int (nI i)), (3, .int (1 : Int32)), (0, .ref (ad (0)))]) hx hb dX6_leader_84 hl (k := 2) rfl (show nI (i) + 1 = nI (i + 1) from nI_1 _) (by decide) rfl (fun ls hl => ?_)
              refine lv_goto (tgt := 4) hx hb dX6_leader_87 (by decide) ?_
              exact ih (i + 1) (nI i) _ _ _ (by omega) (by omega) (Or.inr (vp_in_nI (by omega) (by decide))) hv hP hS (lv_sub hl [0, 1, 3] rfl)
            · have hv := hv.trans (if_neg c_6)
              refine lv_aload_n hx hb dX6_leader_39 rfl (lv_at hl 2 rfl) ?_
              refine fg_X6_17 hx hb hts hK hP hown dX6_leader_40 ?_
              refine lv_iload_n hx hb dX6_leader_43 rfl (lv_at hl 0 rfl) ?_
              refine w_ialdN hx hb hK hP (k := 2) (by decide) lyM2 (i := i) (by omega) (by decide) dX6_leader_44 ?_
              refine lv_aload_n hx hb dX6_leader_45 rfl (lv_at hl 2 rfl) ?_
              refine fg_X6_17 hx hb hts hK hP hown dX6_leader_46 ?_
              refine lv_iload_n hx hb dX6_leader_49 rfl (lv_at hl 1 rfl) ?_
              have hin := (hx0_4.resolve_left (fun h => c_4 h.1))
              refine w_iald hx hb hK hP (k := 2) (by decide) lyM2 hin dX6_leader_50 ?_
              refine jI_ne (tgt := 72) hx hb dX6_leader_51 (by decide) (fun c_8 => ?_) (fun c_8 => ?_)
              · have hv := hv.trans (if_pos c_8)
                refine lv_aload_n hx hb dX6_leader_54 rfl (lv_at hl 2 rfl) ?_
                refine lv_iload_n hx hb dX6_leader_55 rfl (lv_at hl 0 rfl) ?_
                refine kVl hx hb hml hown hts hK hP hS hA (As := [.int (nI i)]) (rest := []) (c_X6_distanceOf l dC dI cA ad hI M  (i) (by omega) hw0 ) (mkV hts q_1048 q_53 q_1045 q_1047 q_34 hyX6_distanceOf rfl rfl ⟨(Nat.le_of_ble_eq_true rfl), (Nat.le_of_ble_eq_true rfl)⟩) (w_recv hK hP (k := 0) (by decide) lyM0 (q := (RX6, TX6, 26)) rfl) rfl hl.1 rfl (Nat.le_of_ble_eq_true rfl) dX6_leader_56 ⟨(Nat.le_of_ble_eq_true rfl), (Nat.le_of_ble_eq_true rfl)⟩ (fun r u H locs hw hP hS _ _ => ?_)
                obtain ⟨hw, hu⟩ := hw
                rw [hu] at hP
                have hv := bnd_name hv hw
                obtain ⟨r_9, er_9⟩ : ∃ z, z = r := ⟨_, rfl⟩
                rw [← er_9] at hv hw
                refine w_eql er_9.symm ?_
                have gr_9 := hw
                refine lv_aload_n hx hb dX6_leader_59 rfl (lv_at hl 2 rfl) ?_
                refine lv_iload_n hx hb dX6_leader_60 rfl (lv_at hl 1 rfl) ?_
                have hin := (hx0_4.resolve_left (fun h => c_4 h.1))
                have hin8 := vp_lt hin
                refine w_eqi (y := nI ((y1_4).toNatClampNeg)) (nI_of_vp hin (by decide)) ?_
                refine kVl hx hb hml hown hts hK hP hS hA (As := [.int (nI ((y1_4).toNatClampNeg))]) (rest := [.long r_9]) (c_X6_distanceOf l dC dI cA ad hI M  ((y1_4).toNatClampNeg) (by omega) hw0 ) (mkV hts q_1048 q_53 q_1045 q_1047 q_34 hyX6_distanceOf rfl rfl ⟨(Nat.le_of_ble_eq_true rfl), (Nat.le_of_ble_eq_true rfl)⟩) (w_recv hK hP (k := 0) (by decide) lyM0 (q := (RX6, TX6, 26)) rfl) rfl hl.1 rfl (Nat.le_of_ble_eq_true rfl) dX6_leader_61 ⟨(Nat.le_of_ble_eq_true rfl), (Nat.le_of_ble_eq_true rfl)⟩ (fun r u H locs hw hP hS _ _ => ?_)
                obtain ⟨hw, hu⟩ := hw
                rw [hu] at hP
                have hv := bnd_name hv hw
                obtain ⟨r_10, er_10⟩ : ∃ z, z = r := ⟨_, rfl⟩
                rw [← er_10] at hv hw
                refine w_eql er_10.symm ?_
                have gr_10 := hw
                refine jL_ge (tgt := 72) hx hb dX6_leader_64 dX6_leader_65 (by decide) (fun c_11 => ?_) (fun c_11 => ?_)
                · have hv := hv.trans (if_pos c_11)
                  refine lv_iconst (v := 1) hx hb dX6_leader_68 (by decide) ?_
                  refine lv_goto (tgt := 73) hx hb dX6_leader_69 (by decide) ?_
                  refine lv_istore_n (lv' := [(3, .int (1 : Int32)), (2, .int (nI i)), (1, .int y1_4), (0, .ref (ad (0)))]) hx hb dX6_leader_73 rfl hl (by decide) rfl (fun ls hl => ?_)
                  refine lv_iload_n hx hb dX6_leader_74 rfl (lv_at hl 0 rfl) ?_
                  refine j0_eq (tgt := 82) hx hb dX6_leader_75 (by decide) (fun c_12 => absurd c_12 (by decide)) (fun _ => ?_)
                  refine lv_iload_n hx hb dX6_leader_78 rfl (lv_at hl 1 rfl) ?_
                  refine lv_goto (tgt := 83) hx hb dX6_leader_79 (by decide) ?_
                  refine lv_istore_n (lv' := [(1, .int (nI i)), (3, .int (1 : Int32)), (2, .int (nI i)), (0, .ref (ad (0)))]) hx hb dX6_leader_83 rfl hl (by decide) rfl (fun ls hl => ?_)
                  refine lv_iinc (v := nI (i + 1)) (lv' := [(2, .int (nI (i + 1))), (1, .int (nI i)), (3, .int (1 : Int32)), (0, .ref (ad (0)))]) hx hb dX6_leader_84 hl (k := 2) rfl (show nI (i) + 1 = nI (i + 1) from nI_1 _) (by decide) rfl (fun ls hl => ?_)
                  refine lv_goto (tgt := 4) hx hb dX6_leader_87 (by decide) ?_
                  exact ih (i + 1) (nI i) _ _ _ (by omega) (by omega) (Or.inr (vp_in_nI (by omega) (by decide))) hv hP hS (lv_sub hl [0, 1, 3] rfl)
                · have hv := hv.trans (if_neg c_11)
                  refine lv_iconst (v := 0) hx hb dX6_leader_72 (by decide) ?_
                  refine lv_istore_n (lv' := [(3, .int (0 : Int32)), (2, .int (nI i)), (1, .int y1_4), (0, .ref (ad (0)))]) hx hb dX6_leader_73 rfl hl (by decide) rfl (fun ls hl => ?_)
                  refine lv_iload_n hx hb dX6_leader_74 rfl (lv_at hl 0 rfl) ?_
                  refine j0_eq (tgt := 82) hx hb dX6_leader_75 (by decide) (fun _ => ?_) (fun c_13 => absurd (by decide) c_13)
                  refine lv_iload_n hx hb dX6_leader_82 rfl (lv_at hl 2 rfl) ?_
                  refine lv_istore_n (lv' := [(1, .int y1_4), (3, .int (0 : Int32)), (2, .int (nI i)), (0, .ref (ad (0)))]) hx hb dX6_leader_83 rfl hl (by decide) rfl (fun ls hl => ?_)
                  refine lv_iinc (v := nI (i + 1)) (lv' := [(2, .int (nI (i + 1))), (1, .int y1_4), (3, .int (0 : Int32)), (0, .ref (ad (0)))]) hx hb dX6_leader_84 hl (k := 2) rfl (show nI (i) + 1 = nI (i + 1) from nI_1 _) (by decide) rfl (fun ls hl => ?_)
                  refine lv_goto (tgt := 4) hx hb dX6_leader_87 (by decide) ?_
                  exact ih (i + 1) y1_4 _ _ _ (by omega) (by omega) (Or.inr (hx0_4.resolve_left (fun h => c_4 h.1))) hv hP hS (lv_sub hl [0, 1, 3] rfl)
              · have hv := hv.trans (if_neg c_8)
                refine lv_iconst (v := 0) hx hb dX6_leader_72 (by decide) ?_
                refine lv_istore_n (lv' := [(3, .int (0 : Int32)), (2, .int (nI i)), (1, .int y1_4), (0, .ref (ad (0)))]) hx hb dX6_leader_73 rfl hl (by decide) rfl (fun ls hl => ?_)
                refine lv_iload_n hx hb dX6_leader_74 rfl (lv_at hl 0 rfl) ?_
                refine j0_eq (tgt := 82) hx hb dX6_leader_75 (by decide) (fun _ => ?_) (fun c_14 => absurd (by decide) c_14)
                refine lv_iload_n hx hb dX6_leader_82 rfl (lv_at hl 2 rfl) ?_
                refine lv_istore_n (lv' := [(1, .int y1_4), (3, .int (0 : Int32)), (2, .int (nI i)), (0, .ref (ad (0)))]) hx hb dX6_leader_83 rfl hl (by decide) rfl (fun ls hl => ?_)
                refine lv_iinc (v := nI (i + 1)) (lv' := [(2, .int (nI (i + 1))), (1, .int y1_4), (3, .int (0 : Int32)), (0, .ref (ad (0)))]) hx hb dX6_leader_84 hl (k := 2) rfl (show nI (i) + 1 = nI (i + 1) from nI_1 _) (by decide) rfl (fun ls hl => ?_)
                refine lv_goto (tgt := 4) hx hb dX6_leader_87 (by decide) ?_
                exact ih (i + 1) y1_4 _ _ _ (by omega) (by omega) (Or.inr (hx0_4.resolve_left (fun h => c_4 h.1))) hv hP hS (lv_sub hl [0, 1, 3] rfl)
      · have hv := hv.trans (if_neg c_1)
        have hc_1 : ¬ i < 8 := fun h => c_1 (nI_lt h (by decide))
        refine lv_iload_n hx hb dX6_leader_90 rfl (lv_at hl 1 rfl) ?_
        exact W.iret (v := y1_4) hx hb hr (fun t ht hW => ⟨⟨_, M, rfl, ⟨hv.symm.trans eV, rfl, (by have e8 : i = 8 := (by omega); subst e8; exact hx0_4)⟩, by rw [ht]; exact hP, va_K.moved hW.alike hK⟩, hS.F ht⟩) hS.2.2 dX6_leader_91
  exact L4 (8 + 1 - 0) 0 ((-1) : Int32) _ _ _ (by omega) (by omega) (Or.inl ⟨rfl, fun j h => absurd h (Nat.not_lt_zero j)⟩) hv hP hS (lv_sub hl [0, 1, 2] rfl)
def f_X6_peer (M : Mem)  : Int32 × Mem := bnd (f_X6_select M  ) fun M_1 => bnd (f_X6_leader M_1  ) fun r_2 => bnd2 (f_X6_fine M_1  r_2) fun r_4 M_3 => (r_4, M_3)
theorem hyX6_peer : yX6_peer.cls ≠ "java/lang/invoke/MethodHandle" ∧ yX6_peer.cls ≠ "java/lang/invoke/VarHandle" ∧ (parseMethodDescriptor yX6_peer.desc).map (fun d => d.parameters.length) = some 0 := by decide +kernel
set_option maxHeartbeats 4000000 in
set_option maxRecDepth 100000 in
theorem c_X6_peer (l : Launch) (dC : Nat → ClassId) (dI : Nat → Nat → Nat) (cA : Nat → ClassId) (ad : Nat → Nat) (hI : Inj 12 ad) (M : Mem) (hw0 : WFm M)  : Met l yX6_peer (.code yX6_peer cX6_peer 1 (some .int) :: AG) ({ frames := 8, cells := 0, slots := 0, locals := 181 } : Room) (va_Pc [.ref (ad (0))] (PM dC dI cA ad M)) (va_Qi (fun r u => (r, u) = f_X6_peer M  ∧ WFm u) (PM dC dI cA ad) (adS 12 ad)) 0 0 (adS 12 ad) := by
  refine cMet (by decide) (Nat.le_of_ble_eq_true rfl) ?_
  intro p e s m below meth c ls hx hb hr hml hlocks hown hts hK hP hS hl
  have hA : ∀ q, adS 12 ad q → adS 12 ad q := fun _ h => h
  have hl : lv_has ls 1 [(0, .ref (ad (0)))] := hl
  obtain ⟨V, eV⟩ : ∃ z, z = f_X6_peer M  := ⟨_, rfl⟩
  have hv := eV
  unfold f_X6_peer at hv
  refine lv_aload_n hx hb dX6_peer_0 rfl (lv_at hl 0 rfl) ?_
  refine kVv hx hb hml hown hts hK hP hS hA (As := []) (rest := []) (c_X6_select l dC dI cA ad hI M   hw0 ) (mkV hts q_1100 q_53 q_1097 q_1099 q_40 hyX6_select rfl rfl ⟨(Nat.le_of_ble_eq_true rfl), (Nat.le_of_ble_eq_true rfl)⟩) (w_recv hK hP (k := 0) (by decide) lyM0 (q := (RX6, TX6, 26)) rfl) rfl hl.1 rfl (Nat.le_of_ble_eq_true rfl) dX6_peer_1 ⟨(Nat.le_of_ble_eq_true rfl), (Nat.le_of_ble_eq_true rfl)⟩ (fun u H locs hw hP hS _ _ => ?_)
  obtain ⟨M_1, eM_1⟩ : ∃ z, z = u := ⟨_, rfl⟩
  rw [← eM_1] at hP hw
  obtain ⟨hw, wM_1⟩ := hw
  have gM_1 := hw
  have hv := bnd_name hv hw
  refine lv_aload_n hx hb dX6_peer_4 rfl (lv_at hl 0 rfl) ?_
  refine lv_aload_n hx hb dX6_peer_5 rfl (lv_at hl 0 rfl) ?_
  refine kVi hx hb hml hown hts hK hP hS hA (As := []) (rest := [.ref (ad (0))]) (c_X6_leader l dC dI cA ad hI M_1   wM_1 ) (mkV hts q_1128 q_53 q_1125 q_1127 q_45 hyX6_leader rfl rfl ⟨(Nat.le_of_ble_eq_true rfl), (Nat.le_of_ble_eq_true rfl)⟩) (w_recv hK hP (k := 0) (by decide) lyM0 (q := (RX6, TX6, 26)) rfl) rfl hl.1 rfl (Nat.le_of_ble_eq_true rfl) dX6_peer_6 ⟨(Nat.le_of_ble_eq_true rfl), (Nat.le_of_ble_eq_true rfl)⟩ (fun r u H locs hw hP hS _ _ => ?_)
  obtain ⟨hw, hu, hxp⟩ := hw
  rw [hu] at hP
  have hv := bnd_name hv hw
  obtain ⟨r_2, er_2⟩ : ∃ z, z = r := ⟨_, rfl⟩
  rw [← er_2] at hv hw hxp
  refine w_eqi er_2.symm ?_
  have gr_2 := hw
  have pr_2 := hxp
  refine kVi hx hb hml hown hts hK hP hS hA (As := [.int r_2]) (rest := []) (c_X6_fine l dC dI cA ad hI M_1  r_2 wM_1 ) (mkV hts q_965 q_53 q_962 q_964 q_28 hyX6_fine rfl rfl ⟨(Nat.le_of_ble_eq_true rfl), (Nat.le_of_ble_eq_true rfl)⟩) (w_recv hK hP (k := 0) (by decide) lyM0 (q := (RX6, TX6, 26)) rfl) rfl hl.1 rfl (Nat.le_of_ble_eq_true rfl) dX6_peer_9 ⟨(Nat.le_of_ble_eq_true rfl), (Nat.le_of_ble_eq_true rfl)⟩ (fun r u H locs hw hP hS _ _ => ?_)
  obtain ⟨M_3, eM_3⟩ : ∃ z, z = u := ⟨_, rfl⟩
  rw [← eM_3] at hP hw
  obtain ⟨r_4, er_4⟩ : ∃ z, z = r := ⟨_, rfl⟩
  rw [← er_4] at hw
  refine w_eqi er_4.symm ?_
  obtain ⟨hw, wM_3⟩ := hw
  have gM_3 := hw
  have hv := bnd2_name hv hw
  exact W.iret (v := r_4) hx hb hr (fun t ht hW => ⟨⟨_, M_3, rfl, ⟨hv.symm.trans eV, wM_3⟩, by rw [ht]; exact hP, va_K.moved hW.alike hK⟩, hS.F ht⟩) hS.2.2 dX6_peer_12
def f_X6_synchronize_L194  : Nat → Nat → Mem → Int32 × Mem
  | 0, _, M_194 => (0, M_194)
  | r + 1, i, M_194 => if nI i < (8 : Int32) then bnd (sB M_194 5 (upd (gB M_194 5) (i) (0 : Int32))) fun M_27 => f_X6_synchronize_L194   r (i + 1) M_27  else ((1 : Int32), M_194)
def f_X6_synchronize_L194_2  : Nat → Nat → Mem → Int32 × Mem
  | 0, _, M_194 => (0, M_194)
  | r + 1, i, M_194 => if nI i < (8 : Int32) then bnd (sB M_194 5 (upd (gB M_194 5) (i) (0 : Int32))) fun M_41 => f_X6_synchronize_L194_2   r (i + 1) M_41  else ((0 : Int32), M_194)
def f_X6_synchronize_L194_3  : Nat → Nat → Mem → Int32 × Mem
  | 0, _, M_194 => (0, M_194)
  | r + 1, i, M_194 => if nI i < (8 : Int32) then bnd (sB M_194 5 (upd (gB M_194 5) (i) (0 : Int32))) fun M_56 => f_X6_synchronize_L194_3   r (i + 1) M_56  else ((1 : Int32), M_194)
def f_X6_synchronize_L194_4  : Nat → Nat → Mem → Int32 × Mem
  | 0, _, M_194 => (0, M_194)
  | r + 1, i, M_194 => if nI i < (8 : Int32) then bnd (sB M_194 5 (upd (gB M_194 5) (i) (0 : Int32))) fun M_70 => f_X6_synchronize_L194_4   r (i + 1) M_70  else ((0 : Int32), M_194)
def f_X6_synchronize_L194_5  : Nat → Nat → Mem → Int32 × Mem
  | 0, _, M_194 => (0, M_194)
  | r + 1, i, M_194 => if nI i < (8 : Int32) then bnd (sB M_194 5 (upd (gB M_194 5) (i) (0 : Int32))) fun M_85 => f_X6_synchronize_L194_5   r (i + 1) M_85  else ((1 : Int32), M_194)
def f_X6_synchronize_L194_6  : Nat → Nat → Mem → Int32 × Mem
  | 0, _, M_194 => (0, M_194)
  | r + 1, i, M_194 => if nI i < (8 : Int32) then bnd (sB M_194 5 (upd (gB M_194 5) (i) (0 : Int32))) fun M_99 => f_X6_synchronize_L194_6   r (i + 1) M_99  else ((0 : Int32), M_194)
def f_X6_synchronize (M : Mem)  : Int32 × Mem := bnd (f_X6_select M  ) fun M_1 => if gI M_1 (7) < ((2 : Int32) * gI M_1 (8)) then bnd2 (f_X6_refused M_1  (0 : Int32)) fun r_4 M_3 => bnd (f_X6_combined M_3  ) fun r_7 => bnd (f_X6_reading M_3  ) fun r_8 => bnd ((r_8 - gL M_3 (3))) fun x_9 => if (0 : Int32) < gI M_3 (4) then if (0 : Int64) < x_9 then bnd ((f_X6_held ((gI M_3 (2)).toInt64 + (((r_7 * (1000000 : Int64)) / x_9) / (4 : Int64))))) fun x_12 => bnd (sI M_3 (2) x_12) fun M_13 => if (128000 : Int64) < r_7 then bnd (sL M_13 (2) (0 : Int64)) fun M_16 => bnd (sL M_16 (1) (gL M_16 (1) + (r_7 * (1000000 : Int64)))) fun M_18 => bnd (sI M_18 (3) (gI M_18 (3) + (1 : Int32))) fun M_20 => bnd (sI M_20 (4) (gI M_20 (4) + (1 : Int32))) fun M_21 => bnd (f_X6_reading M_21  ) fun r_22 => bnd (sL M_21 (3) r_22) fun M_23 => bnd (f_X6_leader M_23  ) fun r_24 => bnd (sI M_23 (5) (gB M_23 1 (r_24).toNatClampNeg + (1 : Int32))) fun M_25 => f_X6_synchronize_L194   (8 + 1 - 0) 0 M_25  else bnd (sL M_13 (2) (r_7 * (1000000 : Int64))) fun M_30 => bnd (sL M_30 (1) (gL M_30 (1) + (0 : Int64))) fun M_32 => bnd (sI M_32 (3) (gI M_32 (3) + (0 : Int32))) fun M_34 => bnd (sI M_34 (4) (gI M_34 (4) + (1 : Int32))) fun M_35 => bnd (f_X6_reading M_35  ) fun r_36 => bnd (sL M_35 (3) r_36) fun M_37 => bnd (f_X6_leader M_37  ) fun r_38 => bnd (sI M_37 (5) (gB M_37 1 (r_38).toNatClampNeg + (1 : Int32))) fun M_39 => f_X6_synchronize_L194_2   (8 + 1 - 0) 0 M_39  else if (128000 : Int64) < r_7 then bnd (sL M_3 (2) (0 : Int64)) fun M_45 => bnd (sL M_45 (1) (gL M_45 (1) + (r_7 * (1000000 : Int64)))) fun M_47 => bnd (sI M_47 (3) (gI M_47 (3) + (1 : Int32))) fun M_49 => bnd (sI M_49 (4) (gI M_49 (4) + (1 : Int32))) fun M_50 => bnd (f_X6_reading M_50  ) fun r_51 => bnd (sL M_50 (3) r_51) fun M_52 => bnd (f_X6_leader M_52  ) fun r_53 => bnd (sI M_52 (5) (gB M_52 1 (r_53).toNatClampNeg + (1 : Int32))) fun M_54 => f_X6_synchronize_L194_3   (8 + 1 - 0) 0 M_54  else bnd (sL M_3 (2) (r_7 * (1000000 : Int64))) fun M_59 => bnd (sL M_59 (1) (gL M_59 (1) + (0 : Int64))) fun M_61 => bnd (sI M_61 (3) (gI M_61 (3) + (0 : Int32))) fun M_63 => bnd (sI M_63 (4) (gI M_63 (4) + (1 : Int32))) fun M_64 => bnd (f_X6_reading M_64  ) fun r_65 => bnd (sL M_64 (3) r_65) fun M_66 => bnd (f_X6_leader M_66  ) fun r_67 => bnd (sI M_66 (5) (gB M_66 1 (r_67).toNatClampNeg + (1 : Int32))) fun M_68 => f_X6_synchronize_L194_4   (8 + 1 - 0) 0 M_68  else if (128000 : Int64) < r_7 then bnd (sL M_3 (2) (0 : Int64)) fun M_74 => bnd (sL M_74 (1) (gL M_74 (1) + (r_7 * (1000000 : Int64)))) fun M_76 => bnd (sI M_76 (3) (gI M_76 (3) + (1 : Int32))) fun M_78 => bnd (sI M_78 (4) (gI M_78 (4) + (1 : Int32))) fun M_79 => bnd (f_X6_reading M_79  ) fun r_80 => bnd (sL M_79 (3) r_80) fun M_81 => bnd (f_X6_leader M_81  ) fun r_82 => bnd (sI M_81 (5) (gB M_81 1 (r_82).toNatClampNeg + (1 : Int32))) fun M_83 => f_X6_synchronize_L194_5   (8 + 1 - 0) 0 M_83  else bnd (sL M_3 (2) (r_7 * (1000000 : Int64))) fun M_88 => bnd (sL M_88 (1) (gL M_88 (1) + (0 : Int64))) fun M_90 => bnd (sI M_90 (3) (gI M_90 (3) + (0 : Int32))) fun M_92 => bnd (sI M_92 (4) (gI M_92 (4) + (1 : Int32))) fun M_93 => bnd (f_X6_reading M_93  ) fun r_94 => bnd (sL M_93 (3) r_94) fun M_95 => bnd (f_X6_leader M_95  ) fun r_96 => bnd (sI M_95 (5) (gB M_95 1 (r_96).toNatClampNeg + (1 : Int32))) fun M_97 => f_X6_synchronize_L194_6   (8 + 1 - 0) 0 M_97  else bnd2 (f_X6_refused M_1  (1 : Int32)) fun r_102 M_101 => ((0 : Int32), M_101)
theorem hyX6_synchronize : yX6_synchronize.cls ≠ "java/lang/invoke/MethodHandle" ∧ yX6_synchronize.cls ≠ "java/lang/invoke/VarHandle" ∧ (parseMethodDescriptor yX6_synchronize.desc).map (fun d => d.parameters.length) = some 0 := by decide +kernel
set_option maxHeartbeats 4000000 in
set_option maxRecDepth 100000 in
theorem c_X6_synchronize (l : Launch) (dC : Nat → ClassId) (dI : Nat → Nat → Nat) (cA : Nat → ClassId) (ad : Nat → Nat) (hI : Inj 12 ad) (M : Mem) (hw0 : WFm M) (hsv0 : ∀ M1 : Mem, M1 = f_X6_select M → gI M1 7 < 2 * gI M1 8 → ∃ j, j < 8 ∧ ¬ gB M1 7 j = 0) (hdi0 : ∀ (M1 M2 : Mem) (r : Int32), M1 = f_X6_select M → (r, M2) = f_X6_refused M1 0 → ∀ j, j < 8 → ¬ gB M2 7 j = 0 → ¬ f_X6_distanceOf M2 j + 1 = 0) : Met l yX6_synchronize (.code yX6_synchronize cX6_synchronize 7 (some .int) :: AG) ({ frames := 8, cells := 0, slots := 0, locals := 181 } : Room) (va_Pc [.ref (ad (0))] (PM dC dI cA ad M)) (va_Qi (fun r u => (r, u) = f_X6_synchronize M  ∧ WFm u) (PM dC dI cA ad) (adS 12 ad)) 0 0 (adS 12 ad) := by
  refine cMet (by decide) (Nat.le_of_ble_eq_true rfl) ?_
  intro p e s m below meth c ls hx hb hr hml hlocks hown hts hK hP hS hl
  have hA : ∀ q, adS 12 ad q → adS 12 ad q := fun _ h => h
  have hl : lv_has ls 7 [(0, .ref (ad (0)))] := hl
  obtain ⟨V, eV⟩ : ∃ z, z = f_X6_synchronize M  := ⟨_, rfl⟩
  have hv := eV
  unfold f_X6_synchronize at hv
  refine lv_aload_n hx hb dX6_synchronize_0 rfl (lv_at hl 0 rfl) ?_
  refine kVv hx hb hml hown hts hK hP hS hA (As := []) (rest := []) (c_X6_select l dC dI cA ad hI M   hw0 ) (mkV hts q_1100 q_53 q_1097 q_1099 q_40 hyX6_select rfl rfl ⟨(Nat.le_of_ble_eq_true rfl), (Nat.le_of_ble_eq_true rfl)⟩) (w_recv hK hP (k := 0) (by decide) lyM0 (q := (RX6, TX6, 26)) rfl) rfl hl.1 rfl (Nat.le_of_ble_eq_true rfl) dX6_synchronize_1 ⟨(Nat.le_of_ble_eq_true rfl), (Nat.le_of_ble_eq_true rfl)⟩ (fun u H locs hw hP hS _ _ => ?_)
  obtain ⟨M_1, eM_1⟩ : ∃ z, z = u := ⟨_, rfl⟩
  rw [← eM_1] at hP hw
  obtain ⟨hw, wM_1⟩ := hw
  have gM_1 := hw
  have hv := bnd_name hv hw
  refine lv_aload_n hx hb dX6_synchronize_4 rfl (lv_at hl 0 rfl) ?_
  refine lv_iconst (v := 2) hx hb dX6_synchronize_5 (by decide) ?_
  refine lv_aload_n hx hb dX6_synchronize_6 rfl (lv_at hl 0 rfl) ?_
  refine fg_X6_181 hx hb hts hK hP hown dX6_synchronize_7 ?_
  refine lv_imul hx hb dX6_synchronize_10 ?_
  refine lv_aload_n hx hb dX6_synchronize_11 rfl (lv_at hl 0 rfl) ?_
  refine fg_X6_178 hx hb hts hK hP hown dX6_synchronize_12 ?_
  refine jI_le (tgt := 22) hx hb dX6_synchronize_15 (by decide) (fun c_2 => ?_) (fun c_2 => ?_)
  · have hv := hv.trans (if_pos c_2)
    refine lv_iconst (v := 0) hx hb dX6_synchronize_18 (by decide) ?_
    refine lv_goto (tgt := 23) hx hb dX6_synchronize_19 (by decide) ?_
    refine kVi hx hb hml hown hts hK hP hS hA (As := [.int (0 : Int32)]) (rest := []) (c_X6_refused l dC dI cA ad hI M_1  (0 : Int32) wM_1 ) (mkV hts q_913 q_53 q_910 q_912 q_24 hyX6_refused rfl rfl ⟨(Nat.le_of_ble_eq_true rfl), (Nat.le_of_ble_eq_true rfl)⟩) (w_recv hK hP (k := 0) (by decide) lyM0 (q := (RX6, TX6, 26)) rfl) rfl hl.1 rfl (Nat.le_of_ble_eq_true rfl) dX6_synchronize_23 ⟨(Nat.le_of_ble_eq_true rfl), (Nat.le_of_ble_eq_true rfl)⟩ (fun r u H locs hw hP hS _ _ => ?_)
    obtain ⟨M_3, eM_3⟩ : ∃ z, z = u := ⟨_, rfl⟩
    rw [← eM_3] at hP hw
    obtain ⟨r_4, er_4⟩ : ∃ z, z = r := ⟨_, rfl⟩
    rw [← er_4] at hw
    refine w_eqi er_4.symm ?_
    obtain ⟨hw, wM_3⟩ := hw
    have gM_3 := hw
    have hgM_3 : gB M_3 7 = gB M_1 7 := congrArg (fun z : Int32 × Mem => gB z.2 7) hw
    have hv := bnd2_name hv hw
    have lr_4 : r_4 = 0 := congrArg Prod.fst hw
    refine w_eqi lr_4 ?_
    refine j0_eq (tgt := 31) hx hb dX6_synchronize_26 (by decide) (fun _ => ?_) (fun c_6 => absurd (by decide) c_6)
    refine lv_aload_n hx hb dX6_synchronize_31 rfl (lv_at hl 0 rfl) ?_
    refine kVl hx hb hml hown hts hK hP hS hA (As := []) (rest := []) (c_X6_combined l dC dI cA ad hI M_3   wM_3 (by rw [hgM_3]; exact hsv0 _ gM_1 c_2) (hdi0 _ _ _ gM_1 gM_3)) (mkV hts q_1120 q_53 q_1117 q_1119 q_44 hyX6_combined rfl rfl ⟨(Nat.le_of_ble_eq_true rfl), (Nat.le_of_ble_eq_true rfl)⟩) (w_recv hK hP (k := 0) (by decide) lyM0 (q := (RX6, TX6, 26)) rfl) rfl hl.1 rfl (Nat.le_of_ble_eq_true rfl) dX6_synchronize_32 ⟨(Nat.le_of_ble_eq_true rfl), (Nat.le_of_ble_eq_true rfl)⟩ (fun r u H locs hw hP hS _ _ => ?_)
    obtain ⟨hw, hu⟩ := hw
    rw [hu] at hP
    have hv := bnd_name hv hw
    obtain ⟨r_7, er_7⟩ : ∃ z, z = r := ⟨_, rfl⟩
    rw [← er_7] at hv hw
    refine w_eql er_7.symm ?_
    have gr_7 := hw
    refine lv_lstore_n (lv' := [(1, .long r_7), (0, .ref (ad (0)))]) hx hb dX6_synchronize_35 rfl hl (by decide) rfl (fun ls hl => ?_)
    refine lv_aload_n hx hb dX6_synchronize_36 rfl (lv_at hl 1 rfl) ?_
    refine kVl hx hb hml hown hts hK hP hS hA (As := []) (rest := []) (c_X6_reading l dC dI cA ad hI M_3   wM_3 ) (mkV hts q_928 q_53 q_925 q_927 q_26 hyX6_reading rfl rfl ⟨(Nat.le_of_ble_eq_true rfl), (Nat.le_of_ble_eq_true rfl)⟩) (w_recv hK hP (k := 0) (by decide) lyM0 (q := (RX6, TX6, 26)) rfl) rfl hl.1 rfl (Nat.le_of_ble_eq_true rfl) dX6_synchronize_37 ⟨(Nat.le_of_ble_eq_true rfl), (Nat.le_of_ble_eq_true rfl)⟩ (fun r u H locs hw hP hS _ _ => ?_)
    obtain ⟨hw, hu⟩ := hw
    rw [hu] at hP
    have hv := bnd_name hv hw
    obtain ⟨r_8, er_8⟩ : ∃ z, z = r := ⟨_, rfl⟩
    rw [← er_8] at hv hw
    refine w_eql er_8.symm ?_
    have gr_8 := hw
    refine lv_aload_n hx hb dX6_synchronize_40 rfl (lv_at hl 1 rfl) ?_
    refine fg_X6_92 hx hb hts hK hP hown dX6_synchronize_41 ?_
    refine lv_lsub hx hb dX6_synchronize_44 ?_
    refine lv_topl (fun x_9 ex_9 => ?_)
    have hv := bnd_name hv ex_9
    refine lv_lstore_n (lv' := [(3, .long x_9), (1, .long r_7), (0, .ref (ad (0)))]) hx hb dX6_synchronize_45 rfl hl (by decide) rfl (fun ls hl => ?_)
    refine lv_aload_n hx hb dX6_synchronize_46 rfl (lv_at hl 2 rfl) ?_
    refine fg_X6_89 hx hb hts hK hP hown dX6_synchronize_47 ?_
    refine j0_le (tgt := 83) hx hb dX6_synchronize_50 (by decide) (fun c_10 => ?_) (fun c_10 => ?_)
    · have hv := hv.trans (if_pos c_10)
      refine lv_lload_n hx hb dX6_synchronize_53 rfl (lv_at hl 0 rfl) ?_
      refine lv_lconst (v := 0) hx hb dX6_synchronize_54 (by decide) ?_
      refine jL_le (tgt := 83) hx hb dX6_synchronize_55 dX6_synchronize_56 (by decide) (fun c_11 => ?_) (fun c_11 => ?_)
      · have hv := hv.trans (if_pos c_11)
        refine lv_aload_n hx hb dX6_synchronize_59 rfl (lv_at hl 2 rfl) ?_
        refine lv_aload_n hx hb dX6_synchronize_60 rfl (lv_at hl 2 rfl) ?_
        refine fg_X6_83 hx hb hts hK hP hown dX6_synchronize_61 ?_
        refine lv_i2l (v := (gI M_3 (2)).toInt64) hx hb dX6_synchronize_64 rfl ?_
        refine lv_lload_n hx hb dX6_synchronize_65 rfl (lv_at hl 1 rfl) ?_
        refine lv_ldc2 (v := 1000000) hx hb hown (hts _ q_914) dX6_synchronize_66 ?_
        refine lv_lmul hx hb dX6_synchronize_69 ?_
        refine lv_lload_n hx hb dX6_synchronize_70 rfl (lv_at hl 0 rfl) ?_
        refine lv_ldiv hx hb dX6_synchronize_71 (pd_ne c_11) ?_
        refine lv_ldc2 (v := 4) hx hb hown (hts _ q_1133) dX6_synchronize_72 ?_
        refine lv_ldiv hx hb dX6_synchronize_75 (by decide) ?_
        refine lv_ladd hx hb dX6_synchronize_76 ?_
        refine kSi hx hb hml hown hts (As := [.long ((gI M_3 (2)).toInt64 + (((r_7 * (1000000 : Int64)) / x_9) / (4 : Int64)))]) (rest := [.ref (ad (0))]) (c_X6_held l ((gI M_3 (2)).toInt64 + (((r_7 * (1000000 : Int64)) / x_9) / (4 : Int64))) ) (mkS hts q_1136 q_53 q_1134 q_1135 hyX6_held rfl rfl ⟨(Nat.le_of_ble_eq_true rfl), (Nat.le_of_ble_eq_true rfl)⟩) rfl hl.1 rfl (Nat.le_of_ble_eq_true rfl) dX6_synchronize_77 ⟨(Nat.le_of_ble_eq_true rfl), (Nat.le_of_ble_eq_true rfl)⟩ ?_
        refine lv_topi (fun x_12 ex_12 => ?_)
        have hv := bnd_name hv ex_12
        refine fp_X6_83 hx hb hts hK hP hI hS hA hown dX6_synchronize_80 (fun H locs hP hS => ?_)
        obtain ⟨M_13, eM_13⟩ : ∃ z : Mem, z = sI M_3 (2) x_12 := ⟨_, rfl⟩
        rw [← eM_13] at hP
        have hv := bnd_name hv eM_13
        have wM_13 : WFm M_13 := by rw [eM_13]; exact WFm_sI wM_3 (by decide)
        have hgM_13 : gB M_13 7 = gB M_3 7 := by rw [eM_13]; rfl
        refine lv_lload_n hx hb dX6_synchronize_83 rfl (lv_at hl 1 rfl) ?_
        refine lv_ldc2 (v := 128000) hx hb hown (hts _ q_1138) dX6_synchronize_84 ?_
        refine jL_le (tgt := 95) hx hb dX6_synchronize_87 dX6_synchronize_88 (by decide) (fun c_14 => ?_) (fun c_14 => ?_)
        · have hv := hv.trans (if_pos c_14)
          refine lv_iconst (v := 1) hx hb dX6_synchronize_91 (by decide) ?_
          refine lv_goto (tgt := 96) hx hb dX6_synchronize_92 (by decide) ?_
          refine lv_istore (lv' := [(5, .int (1 : Int32)), (3, .long x_9), (1, .long r_7), (0, .ref (ad (0)))]) hx hb dX6_synchronize_96 hl (by decide) rfl (fun ls hl => ?_)
          refine lv_aload_n hx hb dX6_synchronize_98 rfl (lv_at hl 3 rfl) ?_
          refine lv_iload hx hb dX6_synchronize_99 (lv_at hl 0 rfl) ?_
          refine j0_eq (tgt := 108) hx hb dX6_synchronize_101 (by decide) (fun c_15 => absurd c_15 (by decide)) (fun _ => ?_)
          refine lv_lconst (v := 0) hx hb dX6_synchronize_104 (by decide) ?_
          refine lv_goto (tgt := 113) hx hb dX6_synchronize_105 (by decide) ?_
          refine fp_X6_77 hx hb hts hK hP hI hS hA hown dX6_synchronize_113 (fun H locs hP hS => ?_)
          obtain ⟨M_16, eM_16⟩ : ∃ z : Mem, z = sL M_13 (2) (0 : Int64) := ⟨_, rfl⟩
          rw [← eM_16] at hP
          have hv := bnd_name hv eM_16
          have wM_16 : WFm M_16 := by rw [eM_16]; exact WFm_sL wM_13
          have hgM_16 : gB M_16 7 = gB M_13 7 := by rw [eM_16]; rfl
          refine lv_aload_n hx hb dX6_synchronize_116 rfl (lv_at hl 3 rfl) ?_
          refine lv_dup hx hb dX6_synchronize_117 rfl ?_
          refine fg_X6_52 hx hb hts hK hP hown dX6_synchronize_118 ?_
          refine lv_iload hx hb dX6_synchronize_121 (lv_at hl 0 rfl) ?_
          refine j0_eq (tgt := 134) hx hb dX6_synchronize_123 (by decide) (fun c_17 => absurd c_17 (by decide)) (fun _ => ?_)
          refine lv_lload_n hx hb dX6_synchronize_126 rfl (lv_at hl 2 rfl) ?_
          refine lv_ldc2 (v := 1000000) hx hb hown (hts _ q_914) dX6_synchronize_127 ?_
          refine lv_lmul hx hb dX6_synchronize_130 ?_
          refine lv_goto (tgt := 135) hx hb dX6_synchronize_131 (by decide) ?_
          refine lv_ladd hx hb dX6_synchronize_135 ?_
          refine fp_X6_52 hx hb hts hK hP hI hS hA hown dX6_synchronize_136 (fun H locs hP hS => ?_)
          obtain ⟨M_18, eM_18⟩ : ∃ z : Mem, z = sL M_16 (1) (gL M_16 (1) + (r_7 * (1000000 : Int64))) := ⟨_, rfl⟩
          rw [← eM_18] at hP
          have hv := bnd_name hv eM_18
          have wM_18 : WFm M_18 := by rw [eM_18]; exact WFm_sL wM_16
          have hgM_18 : gB M_18 7 = gB M_16 7 := by rw [eM_18]; rfl
          refine lv_aload_n hx hb dX6_synchronize_139 rfl (lv_at hl 3 rfl) ?_
          refine lv_dup hx hb dX6_synchronize_140 rfl ?_
          refine fg_X6_86 hx hb hts hK hP hown dX6_synchronize_141 ?_
          refine lv_iload hx hb dX6_synchronize_144 (lv_at hl 0 rfl) ?_
          refine j0_eq (tgt := 153) hx hb dX6_synchronize_146 (by decide) (fun c_19 => absurd c_19 (by decide)) (fun _ => ?_)
          refine lv_iconst (v := 1) hx hb dX6_synchronize_149 (by decide) ?_
          refine lv_goto (tgt := 154) hx hb dX6_synchronize_150 (by decide) ?_
          refine lv_iadd hx hb dX6_synchronize_154 ?_
          refine fp_X6_86 hx hb hts hK hP hI hS hA hown dX6_synchronize_155 (fun H locs hP hS => ?_)
          obtain ⟨M_20, eM_20⟩ : ∃ z : Mem, z = sI M_18 (3) (gI M_18 (3) + (1 : Int32)) := ⟨_, rfl⟩
          rw [← eM_20] at hP
          have hv := bnd_name hv eM_20
          have wM_20 : WFm M_20 := by rw [eM_20]; exact WFm_sI wM_18 (by decide)
          have hgM_20 : gB M_20 7 = gB M_18 7 := by rw [eM_20]; rfl
          refine lv_aload_n hx hb dX6_synchronize_158 rfl (lv_at hl 3 rfl) ?_
          refine lv_dup hx hb dX6_synchronize_159 rfl ?_
          refine fg_X6_89 hx hb hts hK hP hown dX6_synchronize_160 ?_
          refine lv_iconst (v := 1) hx hb dX6_synchronize_163 (by decide) ?_
          refine lv_iadd hx hb dX6_synchronize_164 ?_
          refine fp_X6_89 hx hb hts hK hP hI hS hA hown dX6_synchronize_165 (fun H locs hP hS => ?_)
          obtain ⟨M_21, eM_21⟩ : ∃ z : Mem, z = sI M_20 (4) (gI M_20 (4) + (1 : Int32)) := ⟨_, rfl⟩
          rw [← eM_21] at hP
          have hv := bnd_name hv eM_21
          have wM_21 : WFm M_21 := by rw [eM_21]; exact WFm_sI wM_20 (by decide)
          have hgM_21 : gB M_21 7 = gB M_20 7 := by rw [eM_21]; rfl
          refine lv_aload_n hx hb dX6_synchronize_168 rfl (lv_at hl 3 rfl) ?_
          refine lv_aload_n hx hb dX6_synchronize_169 rfl (lv_at hl 3 rfl) ?_
          refine kVl hx hb hml hown hts hK hP hS hA (As := []) (rest := [.ref (ad (0))]) (c_X6_reading l dC dI cA ad hI M_21   wM_21 ) (mkV hts q_928 q_53 q_925 q_927 q_26 hyX6_reading rfl rfl ⟨(Nat.le_of_ble_eq_true rfl), (Nat.le_of_ble_eq_true rfl)⟩) (w_recv hK hP (k := 0) (by decide) lyM0 (q := (RX6, TX6, 26)) rfl) rfl hl.1 rfl (Nat.le_of_ble_eq_true rfl) dX6_synchronize_170 ⟨(Nat.le_of_ble_eq_true rfl), (Nat.le_of_ble_eq_true rfl)⟩ (fun r u H locs hw hP hS _ _ => ?_)
          obtain ⟨hw, hu⟩ := hw
          rw [hu] at hP
          have hv := bnd_name hv hw
          obtain ⟨r_22, er_22⟩ : ∃ z, z = r := ⟨_, rfl⟩
          rw [← er_22] at hv hw
          refine w_eql er_22.symm ?_
          have gr_22 := hw
          refine fp_X6_92 hx hb hts hK hP hI hS hA hown dX6_synchronize_173 (fun H locs hP hS => ?_)
          obtain ⟨M_23, eM_23⟩ : ∃ z : Mem, z = sL M_21 (3) r_22 := ⟨_, rfl⟩
          rw [← eM_23] at hP
          have hv := bnd_name hv eM_23
          have wM_23 : WFm M_23 := by rw [eM_23]; exact WFm_sL wM_21
          have hgM_23 : gB M_23 7 = gB M_21 7 := by rw [eM_23]; rfl
          refine lv_aload_n hx hb dX6_synchronize_176 rfl (lv_at hl 3 rfl) ?_
          refine lv_aload_n hx hb dX6_synchronize_177 rfl (lv_at hl 3 rfl) ?_
          refine fg_X6_17 hx hb hts hK hP hown dX6_synchronize_178 ?_
          refine lv_aload_n hx hb dX6_synchronize_181 rfl (lv_at hl 3 rfl) ?_
          refine kVi hx hb hml hown hts hK hP hS hA (As := []) (rest := [.ref (ad (2)), .ref (ad (0))]) (c_X6_leader l dC dI cA ad hI M_23   wM_23 ) (mkV hts q_1128 q_53 q_1125 q_1127 q_45 hyX6_leader rfl rfl ⟨(Nat.le_of_ble_eq_true rfl), (Nat.le_of_ble_eq_true rfl)⟩) (w_recv hK hP (k := 0) (by decide) lyM0 (q := (RX6, TX6, 26)) rfl) rfl hl.1 rfl (Nat.le_of_ble_eq_true rfl) dX6_synchronize_182 ⟨(Nat.le_of_ble_eq_true rfl), (Nat.le_of_ble_eq_true rfl)⟩ (fun r u H locs hw hP hS _ _ => ?_)
          obtain ⟨hw, hu, hxp⟩ := hw
          rw [hu] at hP
          have hv := bnd_name hv hw
          obtain ⟨r_24, er_24⟩ : ∃ z, z = r := ⟨_, rfl⟩
          rw [← er_24] at hv hw hxp
          refine w_eqi er_24.symm ?_
          have gr_24 := hw
          have pr_24 := hxp
          have hin := (pr_24.resolve_left (fun h => (show ∃ j, j < 8 ∧ ¬ gB M_23 7 j = 0 by rw [hgM_23, hgM_21, hgM_20, hgM_18, hgM_16, hgM_13, hgM_3]; exact hsv0 _ gM_1 c_2).elim fun j hj => hj.2 (h.2 j hj.1)))
          refine w_iald hx hb hK hP (k := 2) (by decide) lyM2 hin dX6_synchronize_185 ?_
          refine lv_iconst (v := 1) hx hb dX6_synchronize_186 (by decide) ?_
          refine lv_iadd hx hb dX6_synchronize_187 ?_
          refine fp_X6_7 hx hb hts hK hP hI hS hA hown dX6_synchronize_188 (fun H locs hP hS => ?_)
          obtain ⟨M_25, eM_25⟩ : ∃ z : Mem, z = sI M_23 (5) (gB M_23 1 (r_24).toNatClampNeg + (1 : Int32)) := ⟨_, rfl⟩
          rw [← eM_25] at hP
          have hv := bnd_name hv eM_25
          have wM_25 : WFm M_25 := by rw [eM_25]; exact WFm_sI wM_23 (by decide)
          have hgM_25 : gB M_25 7 = gB M_23 7 := by rw [eM_25]; rfl
          refine lv_iconst (v := 0) hx hb dX6_synchronize_191 (by decide) ?_
          refine lv_istore (lv' := [(6, .int (0 : Int32)), (5, .int (1 : Int32)), (3, .long x_9), (1, .long r_7), (0, .ref (ad (0)))]) hx hb dX6_synchronize_192 hl (by decide) rfl (fun ls hl => ?_)
          have L194 : ∀ (r i : Nat) (M_194 : Mem) (H : Heap) (locs : List Loc) (ls : Array Slot), i + r = 8 + 1 → i ≤ 8 → (WFm M_194) → V = f_X6_synchronize_L194   r i M_194  → va_P (dC, dI) vwCl (wld 12 layM cA ad M_194) H → va_S (adS 12 ad) s.heap H locs → lv_has ls 7 [(6, .int (nI i)), (5, .int (1 : Int32)), (3, .long x_9), (1, .long r_7), (0, .ref (ad (0)))] → W p l e ({ frames := 8, cells := 0, slots := 0, locals := 181 } : Room) s m ([.ref (ad (0))] : List Value).toArray below meth c H locs 0 0 (MQ below (va_Qi (fun r u => (r, u) = f_X6_synchronize M  ∧ WFm u) (PM dC dI cA ad) (adS 12 ad)) ([.ref (ad (0))] : List Value).toArray s 0 0 (adS 12 ad)) (F0 m 194 ls []) := by
            intro r
            induction r with
            | zero =>
              intro i M_194 H locs ls hir hib
              omega
            | succ r ih =>
              intro i M_194 H locs ls hir hib hx0_194 hv hP hS hl
              rw [f_X6_synchronize_L194] at hv
              refine lv_iload hx hb dX6_synchronize_194 (lv_at hl 0 rfl) ?_
              refine lv_bipush (v := 8) hx hb dX6_synchronize_196 (by decide) ?_
              refine jI_ge (tgt := 215) hx hb dX6_synchronize_198 (by decide) (fun c_26 => ?_) (fun c_26 => ?_)
              · have hv := hv.trans (if_pos c_26)
                have hc_26 : i < 8 := nI_lt8 (n := 8) c_26 (by omega) (by decide)
                refine lv_aload_n hx hb dX6_synchronize_201 rfl (lv_at hl 4 rfl) ?_
                refine fg_X6_29 hx hb hts hK hP hown dX6_synchronize_202 ?_
                refine lv_iload hx hb dX6_synchronize_205 (lv_at hl 0 rfl) ?_
                refine lv_iconst (v := 0) hx hb dX6_synchronize_207 (by decide) ?_
                refine w_iastN hx hb hK hP hI hS hA (k := 6) (by decide) lyM6 uAM6 (i := i) (by omega) (by decide) dX6_synchronize_208 (fun H locs hP hS => ?_)
                obtain ⟨M_27, eM_27⟩ : ∃ z : Mem, z = sB M_194 5 (upd (gB M_194 5) (i) (0 : Int32)) := ⟨_, rfl⟩
                rw [← eM_27] at hP
                have hv := bnd_name hv eM_27
                have wM_27 : WFm M_27 := by rw [eM_27]; exact WFm_k (0) hx0_194 (by omega) rfl
                have hgM_27 : gB M_27 7 = gB M_194 7 := by rw [eM_27]; rfl
                refine lv_iinc (v := nI (i + 1)) (lv' := [(6, .int (nI (i + 1))), (5, .int (1 : Int32)), (3, .long x_9), (1, .long r_7), (0, .ref (ad (0)))]) hx hb dX6_synchronize_209 hl (k := 0) rfl (show nI (i) + 1 = nI (i + 1) from nI_1 _) (by decide) rfl (fun ls hl => ?_)
                refine lv_goto (tgt := 194) hx hb dX6_synchronize_212 (by decide) ?_
                exact ih (i + 1)  M_27 _ _ _ (by omega) (by omega) (wM_27) hv hP hS (lv_sub hl [0, 1, 2, 3, 4] rfl)
              · have hv := hv.trans (if_neg c_26)
                have hc_26 : ¬ i < 8 := fun h => c_26 (nI_lt h (by decide))
                refine lv_iload hx hb dX6_synchronize_215 (lv_at hl 1 rfl) ?_
                refine j0_eq (tgt := 224) hx hb dX6_synchronize_217 (by decide) (fun c_28 => absurd c_28 (by decide)) (fun _ => ?_)
                refine lv_iconst (v := 1) hx hb dX6_synchronize_220 (by decide) ?_
                refine lv_goto (tgt := 225) hx hb dX6_synchronize_221 (by decide) ?_
                exact W.iret (v := (1 : Int32)) hx hb hr (fun t ht hW => ⟨⟨_, M_194, rfl, ⟨hv.symm.trans eV, hx0_194⟩, by rw [ht]; exact hP, va_K.moved hW.alike hK⟩, hS.F ht⟩) hS.2.2 dX6_synchronize_225
          exact L194 (8 + 1 - 0) 0  M_25 _ _ _ (by omega) (by omega) (wM_25) hv hP hS (lv_sub hl [0, 1, 2, 3, 4] rfl)
        · have hv := hv.trans (if_neg c_14)
          refine lv_iconst (v := 0) hx hb dX6_synchronize_95 (by decide) ?_
          refine lv_istore (lv' := [(5, .int (0 : Int32)), (3, .long x_9), (1, .long r_7), (0, .ref (ad (0)))]) hx hb dX6_synchronize_96 hl (by decide) rfl (fun ls hl => ?_)
          refine lv_aload_n hx hb dX6_synchronize_98 rfl (lv_at hl 3 rfl) ?_
          refine lv_iload hx hb dX6_synchronize_99 (lv_at hl 0 rfl) ?_
          refine j0_eq (tgt := 108) hx hb dX6_synchronize_101 (by decide) (fun _ => ?_) (fun c_29 => absurd (by decide) c_29)
          refine lv_lload_n hx hb dX6_synchronize_108 rfl (lv_at hl 2 rfl) ?_
          refine lv_ldc2 (v := 1000000) hx hb hown (hts _ q_914) dX6_synchronize_109 ?_
          refine lv_lmul hx hb dX6_synchronize_112 ?_
          refine fp_X6_77 hx hb hts hK hP hI hS hA hown dX6_synchronize_113 (fun H locs hP hS => ?_)
          obtain ⟨M_30, eM_30⟩ : ∃ z : Mem, z = sL M_13 (2) (r_7 * (1000000 : Int64)) := ⟨_, rfl⟩
          rw [← eM_30] at hP
          have hv := bnd_name hv eM_30
          have wM_30 : WFm M_30 := by rw [eM_30]; exact WFm_sL wM_13
          have hgM_30 : gB M_30 7 = gB M_13 7 := by rw [eM_30]; rfl
          refine lv_aload_n hx hb dX6_synchronize_116 rfl (lv_at hl 3 rfl) ?_
          refine lv_dup hx hb dX6_synchronize_117 rfl ?_
          refine fg_X6_52 hx hb hts hK hP hown dX6_synchronize_118 ?_
          refine lv_iload hx hb dX6_synchronize_121 (lv_at hl 0 rfl) ?_
          refine j0_eq (tgt := 134) hx hb dX6_synchronize_123 (by decide) (fun _ => ?_) (fun c_31 => absurd (by decide) c_31)
          refine lv_lconst (v := 0) hx hb dX6_synchronize_134 (by decide) ?_
          refine lv_ladd hx hb dX6_synchronize_135 ?_
          refine fp_X6_52 hx hb hts hK hP hI hS hA hown dX6_synchronize_136 (fun H locs hP hS => ?_)
          obtain ⟨M_32, eM_32⟩ : ∃ z : Mem, z = sL M_30 (1) (gL M_30 (1) + (0 : Int64)) := ⟨_, rfl⟩
          rw [← eM_32] at hP
          have hv := bnd_name hv eM_32
          have wM_32 : WFm M_32 := by rw [eM_32]; exact WFm_sL wM_30
          have hgM_32 : gB M_32 7 = gB M_30 7 := by rw [eM_32]; rfl
          refine lv_aload_n hx hb dX6_synchronize_139 rfl (lv_at hl 3 rfl) ?_
          refine lv_dup hx hb dX6_synchronize_140 rfl ?_
          refine fg_X6_86 hx hb hts hK hP hown dX6_synchronize_141 ?_
          refine lv_iload hx hb dX6_synchronize_144 (lv_at hl 0 rfl) ?_
          refine j0_eq (tgt := 153) hx hb dX6_synchronize_146 (by decide) (fun _ => ?_) (fun c_33 => absurd (by decide) c_33)
          refine lv_iconst (v := 0) hx hb dX6_synchronize_153 (by decide) ?_
          refine lv_iadd hx hb dX6_synchronize_154 ?_
          refine fp_X6_86 hx hb hts hK hP hI hS hA hown dX6_synchronize_155 (fun H locs hP hS => ?_)
          obtain ⟨M_34, eM_34⟩ : ∃ z : Mem, z = sI M_32 (3) (gI M_32 (3) + (0 : Int32)) := ⟨_, rfl⟩
          rw [← eM_34] at hP
          have hv := bnd_name hv eM_34
          have wM_34 : WFm M_34 := by rw [eM_34]; exact WFm_sI wM_32 (by decide)
          have hgM_34 : gB M_34 7 = gB M_32 7 := by rw [eM_34]; rfl
          refine lv_aload_n hx hb dX6_synchronize_158 rfl (lv_at hl 3 rfl) ?_
          refine lv_dup hx hb dX6_synchronize_159 rfl ?_
          refine fg_X6_89 hx hb hts hK hP hown dX6_synchronize_160 ?_
          refine lv_iconst (v := 1) hx hb dX6_synchronize_163 (by decide) ?_
          refine lv_iadd hx hb dX6_synchronize_164 ?_
          refine fp_X6_89 hx hb hts hK hP hI hS hA hown dX6_synchronize_165 (fun H locs hP hS => ?_)
          obtain ⟨M_35, eM_35⟩ : ∃ z : Mem, z = sI M_34 (4) (gI M_34 (4) + (1 : Int32)) := ⟨_, rfl⟩
          rw [← eM_35] at hP
          have hv := bnd_name hv eM_35
          have wM_35 : WFm M_35 := by rw [eM_35]; exact WFm_sI wM_34 (by decide)
          have hgM_35 : gB M_35 7 = gB M_34 7 := by rw [eM_35]; rfl
          refine lv_aload_n hx hb dX6_synchronize_168 rfl (lv_at hl 3 rfl) ?_
          refine lv_aload_n hx hb dX6_synchronize_169 rfl (lv_at hl 3 rfl) ?_
          refine kVl hx hb hml hown hts hK hP hS hA (As := []) (rest := [.ref (ad (0))]) (c_X6_reading l dC dI cA ad hI M_35   wM_35 ) (mkV hts q_928 q_53 q_925 q_927 q_26 hyX6_reading rfl rfl ⟨(Nat.le_of_ble_eq_true rfl), (Nat.le_of_ble_eq_true rfl)⟩) (w_recv hK hP (k := 0) (by decide) lyM0 (q := (RX6, TX6, 26)) rfl) rfl hl.1 rfl (Nat.le_of_ble_eq_true rfl) dX6_synchronize_170 ⟨(Nat.le_of_ble_eq_true rfl), (Nat.le_of_ble_eq_true rfl)⟩ (fun r u H locs hw hP hS _ _ => ?_)
          obtain ⟨hw, hu⟩ := hw
          rw [hu] at hP
          have hv := bnd_name hv hw
          obtain ⟨r_36, er_36⟩ : ∃ z, z = r := ⟨_, rfl⟩
          rw [← er_36] at hv hw
          refine w_eql er_36.symm ?_
          have gr_36 := hw
          refine fp_X6_92 hx hb hts hK hP hI hS hA hown dX6_synchronize_173 (fun H locs hP hS => ?_)
          obtain ⟨M_37, eM_37⟩ : ∃ z : Mem, z = sL M_35 (3) r_36 := ⟨_, rfl⟩
          rw [← eM_37] at hP
          have hv := bnd_name hv eM_37
          have wM_37 : WFm M_37 := by rw [eM_37]; exact WFm_sL wM_35
          have hgM_37 : gB M_37 7 = gB M_35 7 := by rw [eM_37]; rfl
          refine lv_aload_n hx hb dX6_synchronize_176 rfl (lv_at hl 3 rfl) ?_
          refine lv_aload_n hx hb dX6_synchronize_177 rfl (lv_at hl 3 rfl) ?_
          refine fg_X6_17 hx hb hts hK hP hown dX6_synchronize_178 ?_
          refine lv_aload_n hx hb dX6_synchronize_181 rfl (lv_at hl 3 rfl) ?_
          refine kVi hx hb hml hown hts hK hP hS hA (As := []) (rest := [.ref (ad (2)), .ref (ad (0))]) (c_X6_leader l dC dI cA ad hI M_37   wM_37 ) (mkV hts q_1128 q_53 q_1125 q_1127 q_45 hyX6_leader rfl rfl ⟨(Nat.le_of_ble_eq_true rfl), (Nat.le_of_ble_eq_true rfl)⟩) (w_recv hK hP (k := 0) (by decide) lyM0 (q := (RX6, TX6, 26)) rfl) rfl hl.1 rfl (Nat.le_of_ble_eq_true rfl) dX6_synchronize_182 ⟨(Nat.le_of_ble_eq_true rfl), (Nat.le_of_ble_eq_true rfl)⟩ (fun r u H locs hw hP hS _ _ => ?_)
          obtain ⟨hw, hu, hxp⟩ := hw
          rw [hu] at hP
          have hv := bnd_name hv hw
          obtain ⟨r_38, er_38⟩ : ∃ z, z = r := ⟨_, rfl⟩
          rw [← er_38] at hv hw hxp
          refine w_eqi er_38.symm ?_
          have gr_38 := hw
          have pr_38 := hxp
          have hin := (pr_38.resolve_left (fun h => (show ∃ j, j < 8 ∧ ¬ gB M_37 7 j = 0 by rw [hgM_37, hgM_35, hgM_34, hgM_32, hgM_30, hgM_13, hgM_3]; exact hsv0 _ gM_1 c_2).elim fun j hj => hj.2 (h.2 j hj.1)))
          refine w_iald hx hb hK hP (k := 2) (by decide) lyM2 hin dX6_synchronize_185 ?_
          refine lv_iconst (v := 1) hx hb dX6_synchronize_186 (by decide) ?_
          refine lv_iadd hx hb dX6_synchronize_187 ?_
          refine fp_X6_7 hx hb hts hK hP hI hS hA hown dX6_synchronize_188 (fun H locs hP hS => ?_)
          obtain ⟨M_39, eM_39⟩ : ∃ z : Mem, z = sI M_37 (5) (gB M_37 1 (r_38).toNatClampNeg + (1 : Int32)) := ⟨_, rfl⟩
          rw [← eM_39] at hP
          have hv := bnd_name hv eM_39
          have wM_39 : WFm M_39 := by rw [eM_39]; exact WFm_sI wM_37 (by decide)
          have hgM_39 : gB M_39 7 = gB M_37 7 := by rw [eM_39]; rfl
          refine lv_iconst (v := 0) hx hb dX6_synchronize_191 (by decide) ?_
          refine lv_istore (lv' := [(6, .int (0 : Int32)), (5, .int (0 : Int32)), (3, .long x_9), (1, .long r_7), (0, .ref (ad (0)))]) hx hb dX6_synchronize_192 hl (by decide) rfl (fun ls hl => ?_)
          have L194 : ∀ (r i : Nat) (M_194 : Mem) (H : Heap) (locs : List Loc) (ls : Array Slot), i + r = 8 + 1 → i ≤ 8 → (WFm M_194) → V = f_X6_synchronize_L194_2   r i M_194  → va_P (dC, dI) vwCl (wld 12 layM cA ad M_194) H → va_S (adS 12 ad) s.heap H locs → lv_has ls 7 [(6, .int (nI i)), (5, .int (0 : Int32)), (3, .long x_9), (1, .long r_7), (0, .ref (ad (0)))] → W p l e ({ frames := 8, cells := 0, slots := 0, locals := 181 } : Room) s m ([.ref (ad (0))] : List Value).toArray below meth c H locs 0 0 (MQ below (va_Qi (fun r u => (r, u) = f_X6_synchronize M  ∧ WFm u) (PM dC dI cA ad) (adS 12 ad)) ([.ref (ad (0))] : List Value).toArray s 0 0 (adS 12 ad)) (F0 m 194 ls []) := by
            intro r
            induction r with
            | zero =>
              intro i M_194 H locs ls hir hib
              omega
            | succ r ih =>
              intro i M_194 H locs ls hir hib hx0_194 hv hP hS hl
              rw [f_X6_synchronize_L194_2] at hv
              refine lv_iload hx hb dX6_synchronize_194 (lv_at hl 0 rfl) ?_
              refine lv_bipush (v := 8) hx hb dX6_synchronize_196 (by decide) ?_
              refine jI_ge (tgt := 215) hx hb dX6_synchronize_198 (by decide) (fun c_40 => ?_) (fun c_40 => ?_)
              · have hv := hv.trans (if_pos c_40)
                have hc_40 : i < 8 := nI_lt8 (n := 8) c_40 (by omega) (by decide)
                refine lv_aload_n hx hb dX6_synchronize_201 rfl (lv_at hl 4 rfl) ?_
                refine fg_X6_29 hx hb hts hK hP hown dX6_synchronize_202 ?_
                refine lv_iload hx hb dX6_synchronize_205 (lv_at hl 0 rfl) ?_
                refine lv_iconst (v := 0) hx hb dX6_synchronize_207 (by decide) ?_
                refine w_iastN hx hb hK hP hI hS hA (k := 6) (by decide) lyM6 uAM6 (i := i) (by omega) (by decide) dX6_synchronize_208 (fun H locs hP hS => ?_)
                obtain ⟨M_41, eM_41⟩ : ∃ z : Mem, z = sB M_194 5 (upd (gB M_194 5) (i) (0 : Int32)) := ⟨_, rfl⟩
                rw [← eM_41] at hP
                have hv := bnd_name hv eM_41
                have wM_41 : WFm M_41 := by rw [eM_41]; exact WFm_k (0) hx0_194 (by omega) rfl
                have hgM_41 : gB M_41 7 = gB M_194 7 := by rw [eM_41]; rfl
                refine lv_iinc (v := nI (i + 1)) (lv' := [(6, .int (nI (i + 1))), (5, .int (0 : Int32)), (3, .long x_9), (1, .long r_7), (0, .ref (ad (0)))]) hx hb dX6_synchronize_209 hl (k := 0) rfl (show nI (i) + 1 = nI (i + 1) from nI_1 _) (by decide) rfl (fun ls hl => ?_)
                refine lv_goto (tgt := 194) hx hb dX6_synchronize_212 (by decide) ?_
                exact ih (i + 1)  M_41 _ _ _ (by omega) (by omega) (wM_41) hv hP hS (lv_sub hl [0, 1, 2, 3, 4] rfl)
              · have hv := hv.trans (if_neg c_40)
                have hc_40 : ¬ i < 8 := fun h => c_40 (nI_lt h (by decide))
                refine lv_iload hx hb dX6_synchronize_215 (lv_at hl 1 rfl) ?_
                refine j0_eq (tgt := 224) hx hb dX6_synchronize_217 (by decide) (fun _ => ?_) (fun c_42 => absurd (by decide) c_42)
                refine lv_iconst (v := 0) hx hb dX6_synchronize_224 (by decide) ?_
                exact W.iret (v := (0 : Int32)) hx hb hr (fun t ht hW => ⟨⟨_, M_194, rfl, ⟨hv.symm.trans eV, hx0_194⟩, by rw [ht]; exact hP, va_K.moved hW.alike hK⟩, hS.F ht⟩) hS.2.2 dX6_synchronize_225
          exact L194 (8 + 1 - 0) 0  M_39 _ _ _ (by omega) (by omega) (wM_39) hv hP hS (lv_sub hl [0, 1, 2, 3, 4] rfl)
      · have hv := hv.trans (if_neg c_11)
        refine lv_lload_n hx hb dX6_synchronize_83 rfl (lv_at hl 1 rfl) ?_
        refine lv_ldc2 (v := 128000) hx hb hown (hts _ q_1138) dX6_synchronize_84 ?_
        refine jL_le (tgt := 95) hx hb dX6_synchronize_87 dX6_synchronize_88 (by decide) (fun c_43 => ?_) (fun c_43 => ?_)
        · have hv := hv.trans (if_pos c_43)
          refine lv_iconst (v := 1) hx hb dX6_synchronize_91 (by decide) ?_
          refine lv_goto (tgt := 96) hx hb dX6_synchronize_92 (by decide) ?_
          refine lv_istore (lv' := [(5, .int (1 : Int32)), (3, .long x_9), (1, .long r_7), (0, .ref (ad (0)))]) hx hb dX6_synchronize_96 hl (by decide) rfl (fun ls hl => ?_)
          refine lv_aload_n hx hb dX6_synchronize_98 rfl (lv_at hl 3 rfl) ?_
          refine lv_iload hx hb dX6_synchronize_99 (lv_at hl 0 rfl) ?_
          refine j0_eq (tgt := 108) hx hb dX6_synchronize_101 (by decide) (fun c_44 => absurd c_44 (by decide)) (fun _ => ?_)
          refine lv_lconst (v := 0) hx hb dX6_synchronize_104 (by decide) ?_
          refine lv_goto (tgt := 113) hx hb dX6_synchronize_105 (by decide) ?_
          refine fp_X6_77 hx hb hts hK hP hI hS hA hown dX6_synchronize_113 (fun H locs hP hS => ?_)
          obtain ⟨M_45, eM_45⟩ : ∃ z : Mem, z = sL M_3 (2) (0 : Int64) := ⟨_, rfl⟩
          rw [← eM_45] at hP
          have hv := bnd_name hv eM_45
          have wM_45 : WFm M_45 := by rw [eM_45]; exact WFm_sL wM_3
          have hgM_45 : gB M_45 7 = gB M_3 7 := by rw [eM_45]; rfl
          refine lv_aload_n hx hb dX6_synchronize_116 rfl (lv_at hl 3 rfl) ?_
          refine lv_dup hx hb dX6_synchronize_117 rfl ?_
          refine fg_X6_52 hx hb hts hK hP hown dX6_synchronize_118 ?_
          refine lv_iload hx hb dX6_synchronize_121 (lv_at hl 0 rfl) ?_
          refine j0_eq (tgt := 134) hx hb dX6_synchronize_123 (by decide) (fun c_46 => absurd c_46 (by decide)) (fun _ => ?_)
          refine lv_lload_n hx hb dX6_synchronize_126 rfl (lv_at hl 2 rfl) ?_
          refine lv_ldc2 (v := 1000000) hx hb hown (hts _ q_914) dX6_synchronize_127 ?_
          refine lv_lmul hx hb dX6_synchronize_130 ?_
          refine lv_goto (tgt := 135) hx hb dX6_synchronize_131 (by decide) ?_
          refine lv_ladd hx hb dX6_synchronize_135 ?_
          refine fp_X6_52 hx hb hts hK hP hI hS hA hown dX6_synchronize_136 (fun H locs hP hS => ?_)
          obtain ⟨M_47, eM_47⟩ : ∃ z : Mem, z = sL M_45 (1) (gL M_45 (1) + (r_7 * (1000000 : Int64))) := ⟨_, rfl⟩
          rw [← eM_47] at hP
          have hv := bnd_name hv eM_47
          have wM_47 : WFm M_47 := by rw [eM_47]; exact WFm_sL wM_45
          have hgM_47 : gB M_47 7 = gB M_45 7 := by rw [eM_47]; rfl
          refine lv_aload_n hx hb dX6_synchronize_139 rfl (lv_at hl 3 rfl) ?_
          refine lv_dup hx hb dX6_synchronize_140 rfl ?_
          refine fg_X6_86 hx hb hts hK hP hown dX6_synchronize_141 ?_
          refine lv_iload hx hb dX6_synchronize_144 (lv_at hl 0 rfl) ?_
          refine j0_eq (tgt := 153) hx hb dX6_synchronize_146 (by decide) (fun c_48 => absurd c_48 (by decide)) (fun _ => ?_)
          refine lv_iconst (v := 1) hx hb dX6_synchronize_149 (by decide) ?_
          refine lv_goto (tgt := 154) hx hb dX6_synchronize_150 (by decide) ?_
          refine lv_iadd hx hb dX6_synchronize_154 ?_
          refine fp_X6_86 hx hb hts hK hP hI hS hA hown dX6_synchronize_155 (fun H locs hP hS => ?_)
          obtain ⟨M_49, eM_49⟩ : ∃ z : Mem, z = sI M_47 (3) (gI M_47 (3) + (1 : Int32)) := ⟨_, rfl⟩
          rw [← eM_49] at hP
          have hv := bnd_name hv eM_49
          have wM_49 : WFm M_49 := by rw [eM_49]; exact WFm_sI wM_47 (by decide)
          have hgM_49 : gB M_49 7 = gB M_47 7 := by rw [eM_49]; rfl
          refine lv_aload_n hx hb dX6_synchronize_158 rfl (lv_at hl 3 rfl) ?_
          refine lv_dup hx hb dX6_synchronize_159 rfl ?_
          refine fg_X6_89 hx hb hts hK hP hown dX6_synchronize_160 ?_
          refine lv_iconst (v := 1) hx hb dX6_synchronize_163 (by decide) ?_
          refine lv_iadd hx hb dX6_synchronize_164 ?_
          refine fp_X6_89 hx hb hts hK hP hI hS hA hown dX6_synchronize_165 (fun H locs hP hS => ?_)
          obtain ⟨M_50, eM_50⟩ : ∃ z : Mem, z = sI M_49 (4) (gI M_49 (4) + (1 : Int32)) := ⟨_, rfl⟩
          rw [← eM_50] at hP
          have hv := bnd_name hv eM_50
          have wM_50 : WFm M_50 := by rw [eM_50]; exact WFm_sI wM_49 (by decide)
          have hgM_50 : gB M_50 7 = gB M_49 7 := by rw [eM_50]; rfl
          refine lv_aload_n hx hb dX6_synchronize_168 rfl (lv_at hl 3 rfl) ?_
          refine lv_aload_n hx hb dX6_synchronize_169 rfl (lv_at hl 3 rfl) ?_
          refine kVl hx hb hml hown hts hK hP hS hA (As := []) (rest := [.ref (ad (0))]) (c_X6_reading l dC dI cA ad hI M_50   wM_50 ) (mkV hts q_928 q_53 q_925 q_927 q_26 hyX6_reading rfl rfl ⟨(Nat.le_of_ble_eq_true rfl), (Nat.le_of_ble_eq_true rfl)⟩) (w_recv hK hP (k := 0) (by decide) lyM0 (q := (RX6, TX6, 26)) rfl) rfl hl.1 rfl (Nat.le_of_ble_eq_true rfl) dX6_synchronize_170 ⟨(Nat.le_of_ble_eq_true rfl), (Nat.le_of_ble_eq_true rfl)⟩ (fun r u H locs hw hP hS _ _ => ?_)
          obtain ⟨hw, hu⟩ := hw
          rw [hu] at hP
          have hv := bnd_name hv hw
          obtain ⟨r_51, er_51⟩ : ∃ z, z = r := ⟨_, rfl⟩
          rw [← er_51] at hv hw
          refine w_eql er_51.symm ?_
          have gr_51 := hw
          refine fp_X6_92 hx hb hts hK hP hI hS hA hown dX6_synchronize_173 (fun H locs hP hS => ?_)
          obtain ⟨M_52, eM_52⟩ : ∃ z : Mem, z = sL M_50 (3) r_51 := ⟨_, rfl⟩
          rw [← eM_52] at hP
          have hv := bnd_name hv eM_52
          have wM_52 : WFm M_52 := by rw [eM_52]; exact WFm_sL wM_50
          have hgM_52 : gB M_52 7 = gB M_50 7 := by rw [eM_52]; rfl
          refine lv_aload_n hx hb dX6_synchronize_176 rfl (lv_at hl 3 rfl) ?_
          refine lv_aload_n hx hb dX6_synchronize_177 rfl (lv_at hl 3 rfl) ?_
          refine fg_X6_17 hx hb hts hK hP hown dX6_synchronize_178 ?_
          refine lv_aload_n hx hb dX6_synchronize_181 rfl (lv_at hl 3 rfl) ?_
          refine kVi hx hb hml hown hts hK hP hS hA (As := []) (rest := [.ref (ad (2)), .ref (ad (0))]) (c_X6_leader l dC dI cA ad hI M_52   wM_52 ) (mkV hts q_1128 q_53 q_1125 q_1127 q_45 hyX6_leader rfl rfl ⟨(Nat.le_of_ble_eq_true rfl), (Nat.le_of_ble_eq_true rfl)⟩) (w_recv hK hP (k := 0) (by decide) lyM0 (q := (RX6, TX6, 26)) rfl) rfl hl.1 rfl (Nat.le_of_ble_eq_true rfl) dX6_synchronize_182 ⟨(Nat.le_of_ble_eq_true rfl), (Nat.le_of_ble_eq_true rfl)⟩ (fun r u H locs hw hP hS _ _ => ?_)
          obtain ⟨hw, hu, hxp⟩ := hw
          rw [hu] at hP
          have hv := bnd_name hv hw
          obtain ⟨r_53, er_53⟩ : ∃ z, z = r := ⟨_, rfl⟩
          rw [← er_53] at hv hw hxp
          refine w_eqi er_53.symm ?_
          have gr_53 := hw
          have pr_53 := hxp
          have hin := (pr_53.resolve_left (fun h => (show ∃ j, j < 8 ∧ ¬ gB M_52 7 j = 0 by rw [hgM_52, hgM_50, hgM_49, hgM_47, hgM_45, hgM_3]; exact hsv0 _ gM_1 c_2).elim fun j hj => hj.2 (h.2 j hj.1)))
          refine w_iald hx hb hK hP (k := 2) (by decide) lyM2 hin dX6_synchronize_185 ?_
          refine lv_iconst (v := 1) hx hb dX6_synchronize_186 (by decide) ?_
          refine lv_iadd hx hb dX6_synchronize_187 ?_
          refine fp_X6_7 hx hb hts hK hP hI hS hA hown dX6_synchronize_188 (fun H locs hP hS => ?_)
          obtain ⟨M_54, eM_54⟩ : ∃ z : Mem, z = sI M_52 (5) (gB M_52 1 (r_53).toNatClampNeg + (1 : Int32)) := ⟨_, rfl⟩
          rw [← eM_54] at hP
          have hv := bnd_name hv eM_54
          have wM_54 : WFm M_54 := by rw [eM_54]; exact WFm_sI wM_52 (by decide)
          have hgM_54 : gB M_54 7 = gB M_52 7 := by rw [eM_54]; rfl
          refine lv_iconst (v := 0) hx hb dX6_synchronize_191 (by decide) ?_
          refine lv_istore (lv' := [(6, .int (0 : Int32)), (5, .int (1 : Int32)), (3, .long x_9), (1, .long r_7), (0, .ref (ad (0)))]) hx hb dX6_synchronize_192 hl (by decide) rfl (fun ls hl => ?_)
          have L194 : ∀ (r i : Nat) (M_194 : Mem) (H : Heap) (locs : List Loc) (ls : Array Slot), i + r = 8 + 1 → i ≤ 8 → (WFm M_194) → V = f_X6_synchronize_L194_3   r i M_194  → va_P (dC, dI) vwCl (wld 12 layM cA ad M_194) H → va_S (adS 12 ad) s.heap H locs → lv_has ls 7 [(6, .int (nI i)), (5, .int (1 : Int32)), (3, .long x_9), (1, .long r_7), (0, .ref (ad (0)))] → W p l e ({ frames := 8, cells := 0, slots := 0, locals := 181 } : Room) s m ([.ref (ad (0))] : List Value).toArray below meth c H locs 0 0 (MQ below (va_Qi (fun r u => (r, u) = f_X6_synchronize M  ∧ WFm u) (PM dC dI cA ad) (adS 12 ad)) ([.ref (ad (0))] : List Value).toArray s 0 0 (adS 12 ad)) (F0 m 194 ls []) := by
            intro r
            induction r with
            | zero =>
              intro i M_194 H locs ls hir hib
              omega
            | succ r ih =>
              intro i M_194 H locs ls hir hib hx0_194 hv hP hS hl
              rw [f_X6_synchronize_L194_3] at hv
              refine lv_iload hx hb dX6_synchronize_194 (lv_at hl 0 rfl) ?_
              refine lv_bipush (v := 8) hx hb dX6_synchronize_196 (by decide) ?_
              refine jI_ge (tgt := 215) hx hb dX6_synchronize_198 (by decide) (fun c_55 => ?_) (fun c_55 => ?_)
              · have hv := hv.trans (if_pos c_55)
                have hc_55 : i < 8 := nI_lt8 (n := 8) c_55 (by omega) (by decide)
                refine lv_aload_n hx hb dX6_synchronize_201 rfl (lv_at hl 4 rfl) ?_
                refine fg_X6_29 hx hb hts hK hP hown dX6_synchronize_202 ?_
                refine lv_iload hx hb dX6_synchronize_205 (lv_at hl 0 rfl) ?_
                refine lv_iconst (v := 0) hx hb dX6_synchronize_207 (by decide) ?_
                refine w_iastN hx hb hK hP hI hS hA (k := 6) (by decide) lyM6 uAM6 (i := i) (by omega) (by decide) dX6_synchronize_208 (fun H locs hP hS => ?_)
                obtain ⟨M_56, eM_56⟩ : ∃ z : Mem, z = sB M_194 5 (upd (gB M_194 5) (i) (0 : Int32)) := ⟨_, rfl⟩
                rw [← eM_56] at hP
                have hv := bnd_name hv eM_56
                have wM_56 : WFm M_56 := by rw [eM_56]; exact WFm_k (0) hx0_194 (by omega) rfl
                have hgM_56 : gB M_56 7 = gB M_194 7 := by rw [eM_56]; rfl
                refine lv_iinc (v := nI (i + 1)) (lv' := [(6, .int (nI (i + 1))), (5, .int (1 : Int32)), (3, .long x_9), (1, .long r_7), (0, .ref (ad (0)))]) hx hb dX6_synchronize_209 hl (k := 0) rfl (show nI (i) + 1 = nI (i + 1) from nI_1 _) (by decide) rfl (fun ls hl => ?_)
                refine lv_goto (tgt := 194) hx hb dX6_synchronize_212 (by decide) ?_
                exact ih (i + 1)  M_56 _ _ _ (by omega) (by omega) (wM_56) hv hP hS (lv_sub hl [0, 1, 2, 3, 4] rfl)
              · have hv := hv.trans (if_neg c_55)
                have hc_55 : ¬ i < 8 := fun h => c_55 (nI_lt h (by decide))
                refine lv_iload hx hb dX6_synchronize_215 (lv_at hl 1 rfl) ?_
                refine j0_eq (tgt := 224) hx hb dX6_synchronize_217 (by decide) (fun c_57 => absurd c_57 (by decide)) (fun _ => ?_)
                refine lv_iconst (v := 1) hx hb dX6_synchronize_220 (by decide) ?_
                refine lv_goto (tgt := 225) hx hb dX6_synchronize_221 (by decide) ?_
                exact W.iret (v := (1 : Int32)) hx hb hr (fun t ht hW => ⟨⟨_, M_194, rfl, ⟨hv.symm.trans eV, hx0_194⟩, by rw [ht]; exact hP, va_K.moved hW.alike hK⟩, hS.F ht⟩) hS.2.2 dX6_synchronize_225
          exact L194 (8 + 1 - 0) 0  M_54 _ _ _ (by omega) (by omega) (wM_54) hv hP hS (lv_sub hl [0, 1, 2, 3, 4] rfl)
        · have hv := hv.trans (if_neg c_43)
          refine lv_iconst (v := 0) hx hb dX6_synchronize_95 (by decide) ?_
          refine lv_istore (lv' := [(5, .int (0 : Int32)), (3, .long x_9), (1, .long r_7), (0, .ref (ad (0)))]) hx hb dX6_synchronize_96 hl (by decide) rfl (fun ls hl => ?_)
          refine lv_aload_n hx hb dX6_synchronize_98 rfl (lv_at hl 3 rfl) ?_
          refine lv_iload hx hb dX6_synchronize_99 (lv_at hl 0 rfl) ?_
          refine j0_eq (tgt := 108) hx hb dX6_synchronize_101 (by decide) (fun _ => ?_) (fun c_58 => absurd (by decide) c_58)
          refine lv_lload_n hx hb dX6_synchronize_108 rfl (lv_at hl 2 rfl) ?_
          refine lv_ldc2 (v := 1000000) hx hb hown (hts _ q_914) dX6_synchronize_109 ?_
          refine lv_lmul hx hb dX6_synchronize_112 ?_
          refine fp_X6_77 hx hb hts hK hP hI hS hA hown dX6_synchronize_113 (fun H locs hP hS => ?_)
          obtain ⟨M_59, eM_59⟩ : ∃ z : Mem, z = sL M_3 (2) (r_7 * (1000000 : Int64)) := ⟨_, rfl⟩
          rw [← eM_59] at hP
          have hv := bnd_name hv eM_59
          have wM_59 : WFm M_59 := by rw [eM_59]; exact WFm_sL wM_3
          have hgM_59 : gB M_59 7 = gB M_3 7 := by rw [eM_59]; rfl
          refine lv_aload_n hx hb dX6_synchronize_116 rfl (lv_at hl 3 rfl) ?_
          refine lv_dup hx hb dX6_synchronize_117 rfl ?_
          refine fg_X6_52 hx hb hts hK hP hown dX6_synchronize_118 ?_
          refine lv_iload hx hb dX6_synchronize_121 (lv_at hl 0 rfl) ?_
          refine j0_eq (tgt := 134) hx hb dX6_synchronize_123 (by decide) (fun _ => ?_) (fun c_60 => absurd (by decide) c_60)
          refine lv_lconst (v := 0) hx hb dX6_synchronize_134 (by decide) ?_
          refine lv_ladd hx hb dX6_synchronize_135 ?_
          refine fp_X6_52 hx hb hts hK hP hI hS hA hown dX6_synchronize_136 (fun H locs hP hS => ?_)
          obtain ⟨M_61, eM_61⟩ : ∃ z : Mem, z = sL M_59 (1) (gL M_59 (1) + (0 : Int64)) := ⟨_, rfl⟩
          rw [← eM_61] at hP
          have hv := bnd_name hv eM_61
          have wM_61 : WFm M_61 := by rw [eM_61]; exact WFm_sL wM_59
          have hgM_61 : gB M_61 7 = gB M_59 7 := by rw [eM_61]; rfl
          refine lv_aload_n hx hb dX6_synchronize_139 rfl (lv_at hl 3 rfl) ?_
          refine lv_dup hx hb dX6_synchronize_140 rfl ?_
          refine fg_X6_86 hx hb hts hK hP hown dX6_synchronize_141 ?_
          refine lv_iload hx hb dX6_synchronize_144 (lv_at hl 0 rfl) ?_
          refine j0_eq (tgt := 153) hx hb dX6_synchronize_146 (by decide) (fun _ => ?_) (fun c_62 => absurd (by decide) c_62)
          refine lv_iconst (v := 0) hx hb dX6_synchronize_153 (by decide) ?_
          refine lv_iadd hx hb dX6_synchronize_154 ?_
          refine fp_X6_86 hx hb hts hK hP hI hS hA hown dX6_synchronize_155 (fun H locs hP hS => ?_)
          obtain ⟨M_63, eM_63⟩ : ∃ z : Mem, z = sI M_61 (3) (gI M_61 (3) + (0 : Int32)) := ⟨_, rfl⟩
          rw [← eM_63] at hP
          have hv := bnd_name hv eM_63
          have wM_63 : WFm M_63 := by rw [eM_63]; exact WFm_sI wM_61 (by decide)
          have hgM_63 : gB M_63 7 = gB M_61 7 := by rw [eM_63]; rfl
          refine lv_aload_n hx hb dX6_synchronize_158 rfl (lv_at hl 3 rfl) ?_
          refine lv_dup hx hb dX6_synchronize_159 rfl ?_
          refine fg_X6_89 hx hb hts hK hP hown dX6_synchronize_160 ?_
          refine lv_iconst (v := 1) hx hb dX6_synchronize_163 (by decide) ?_
          refine lv_iadd hx hb dX6_synchronize_164 ?_
          refine fp_X6_89 hx hb hts hK hP hI hS hA hown dX6_synchronize_165 (fun H locs hP hS => ?_)
          obtain ⟨M_64, eM_64⟩ : ∃ z : Mem, z = sI M_63 (4) (gI M_63 (4) + (1 : Int32)) := ⟨_, rfl⟩
          rw [← eM_64] at hP
          have hv := bnd_name hv eM_64
          have wM_64 : WFm M_64 := by rw [eM_64]; exact WFm_sI wM_63 (by decide)
          have hgM_64 : gB M_64 7 = gB M_63 7 := by rw [eM_64]; rfl
          refine lv_aload_n hx hb dX6_synchronize_168 rfl (lv_at hl 3 rfl) ?_
          refine lv_aload_n hx hb dX6_synchronize_169 rfl (lv_at hl 3 rfl) ?_
          refine kVl hx hb hml hown hts hK hP hS hA (As := []) (rest := [.ref (ad (0))]) (c_X6_reading l dC dI cA ad hI M_64   wM_64 ) (mkV hts q_928 q_53 q_925 q_927 q_26 hyX6_reading rfl rfl ⟨(Nat.le_of_ble_eq_true rfl), (Nat.le_of_ble_eq_true rfl)⟩) (w_recv hK hP (k := 0) (by decide) lyM0 (q := (RX6, TX6, 26)) rfl) rfl hl.1 rfl (Nat.le_of_ble_eq_true rfl) dX6_synchronize_170 ⟨(Nat.le_of_ble_eq_true rfl), (Nat.le_of_ble_eq_true rfl)⟩ (fun r u H locs hw hP hS _ _ => ?_)
          obtain ⟨hw, hu⟩ := hw
          rw [hu] at hP
          have hv := bnd_name hv hw
          obtain ⟨r_65, er_65⟩ : ∃ z, z = r := ⟨_, rfl⟩
          rw [← er_65] at hv hw
          refine w_eql er_65.symm ?_
          have gr_65 := hw
          refine fp_X6_92 hx hb hts hK hP hI hS hA hown dX6_synchronize_173 (fun H locs hP hS => ?_)
          obtain ⟨M_66, eM_66⟩ : ∃ z : Mem, z = sL M_64 (3) r_65 := ⟨_, rfl⟩
          rw [← eM_66] at hP
          have hv := bnd_name hv eM_66
          have wM_66 : WFm M_66 := by rw [eM_66]; exact WFm_sL wM_64
          have hgM_66 : gB M_66 7 = gB M_64 7 := by rw [eM_66]; rfl
          refine lv_aload_n hx hb dX6_synchronize_176 rfl (lv_at hl 3 rfl) ?_
          refine lv_aload_n hx hb dX6_synchronize_177 rfl (lv_at hl 3 rfl) ?_
          refine fg_X6_17 hx hb hts hK hP hown dX6_synchronize_178 ?_
          refine lv_aload_n hx hb dX6_synchronize_181 rfl (lv_at hl 3 rfl) ?_
          refine kVi hx hb hml hown hts hK hP hS hA (As := []) (rest := [.ref (ad (2)), .ref (ad (0))]) (c_X6_leader l dC dI cA ad hI M_66   wM_66 ) (mkV hts q_1128 q_53 q_1125 q_1127 q_45 hyX6_leader rfl rfl ⟨(Nat.le_of_ble_eq_true rfl), (Nat.le_of_ble_eq_true rfl)⟩) (w_recv hK hP (k := 0) (by decide) lyM0 (q := (RX6, TX6, 26)) rfl) rfl hl.1 rfl (Nat.le_of_ble_eq_true rfl) dX6_synchronize_182 ⟨(Nat.le_of_ble_eq_true rfl), (Nat.le_of_ble_eq_true rfl)⟩ (fun r u H locs hw hP hS _ _ => ?_)
          obtain ⟨hw, hu, hxp⟩ := hw
          rw [hu] at hP
          have hv := bnd_name hv hw
          obtain ⟨r_67, er_67⟩ : ∃ z, z = r := ⟨_, rfl⟩
          rw [← er_67] at hv hw hxp
          refine w_eqi er_67.symm ?_
          have gr_67 := hw
          have pr_67 := hxp
          have hin := (pr_67.resolve_left (fun h => (show ∃ j, j < 8 ∧ ¬ gB M_66 7 j = 0 by rw [hgM_66, hgM_64, hgM_63, hgM_61, hgM_59, hgM_3]; exact hsv0 _ gM_1 c_2).elim fun j hj => hj.2 (h.2 j hj.1)))
          refine w_iald hx hb hK hP (k := 2) (by decide) lyM2 hin dX6_synchronize_185 ?_
          refine lv_iconst (v := 1) hx hb dX6_synchronize_186 (by decide) ?_
          refine lv_iadd hx hb dX6_synchronize_187 ?_
          refine fp_X6_7 hx hb hts hK hP hI hS hA hown dX6_synchronize_188 (fun H locs hP hS => ?_)
          obtain ⟨M_68, eM_68⟩ : ∃ z : Mem, z = sI M_66 (5) (gB M_66 1 (r_67).toNatClampNeg + (1 : Int32)) := ⟨_, rfl⟩
          rw [← eM_68] at hP
          have hv := bnd_name hv eM_68
          have wM_68 : WFm M_68 := by rw [eM_68]; exact WFm_sI wM_66 (by decide)
          have hgM_68 : gB M_68 7 = gB M_66 7 := by rw [eM_68]; rfl
          refine lv_iconst (v := 0) hx hb dX6_synchronize_191 (by decide) ?_
          refine lv_istore (lv' := [(6, .int (0 : Int32)), (5, .int (0 : Int32)), (3, .long x_9), (1, .long r_7), (0, .ref (ad (0)))]) hx hb dX6_synchronize_192 hl (by decide) rfl (fun ls hl => ?_)
          have L194 : ∀ (r i : Nat) (M_194 : Mem) (H : Heap) (locs : List Loc) (ls : Array Slot), i + r = 8 + 1 → i ≤ 8 → (WFm M_194) → V = f_X6_synchronize_L194_4   r i M_194  → va_P (dC, dI) vwCl (wld 12 layM cA ad M_194) H → va_S (adS 12 ad) s.heap H locs → lv_has ls 7 [(6, .int (nI i)), (5, .int (0 : Int32)), (3, .long x_9), (1, .long r_7), (0, .ref (ad (0)))] → W p l e ({ frames := 8, cells := 0, slots := 0, locals := 181 } : Room) s m ([.ref (ad (0))] : List Value).toArray below meth c H locs 0 0 (MQ below (va_Qi (fun r u => (r, u) = f_X6_synchronize M  ∧ WFm u) (PM dC dI cA ad) (adS 12 ad)) ([.ref (ad (0))] : List Value).toArray s 0 0 (adS 12 ad)) (F0 m 194 ls []) := by
            intro r
            induction r with
            | zero =>
              intro i M_194 H locs ls hir hib
              omega
            | succ r ih =>
              intro i M_194 H locs ls hir hib hx0_194 hv hP hS hl
              rw [f_X6_synchronize_L194_4] at hv
              refine lv_iload hx hb dX6_synchronize_194 (lv_at hl 0 rfl) ?_
              refine lv_bipush (v := 8) hx hb dX6_synchronize_196 (by decide) ?_
              refine jI_ge (tgt := 215) hx hb dX6_synchronize_198 (by decide) (fun c_69 => ?_) (fun c_69 => ?_)
              · have hv := hv.trans (if_pos c_69)
                have hc_69 : i < 8 := nI_lt8 (n := 8) c_69 (by omega) (by decide)
                refine lv_aload_n hx hb dX6_synchronize_201 rfl (lv_at hl 4 rfl) ?_
                refine fg_X6_29 hx hb hts hK hP hown dX6_synchronize_202 ?_
                refine lv_iload hx hb dX6_synchronize_205 (lv_at hl 0 rfl) ?_
                refine lv_iconst (v := 0) hx hb dX6_synchronize_207 (by decide) ?_
                refine w_iastN hx hb hK hP hI hS hA (k := 6) (by decide) lyM6 uAM6 (i := i) (by omega) (by decide) dX6_synchronize_208 (fun H locs hP hS => ?_)
                obtain ⟨M_70, eM_70⟩ : ∃ z : Mem, z = sB M_194 5 (upd (gB M_194 5) (i) (0 : Int32)) := ⟨_, rfl⟩
                rw [← eM_70] at hP
                have hv := bnd_name hv eM_70
                have wM_70 : WFm M_70 := by rw [eM_70]; exact WFm_k (0) hx0_194 (by omega) rfl
                have hgM_70 : gB M_70 7 = gB M_194 7 := by rw [eM_70]; rfl
                refine lv_iinc (v := nI (i + 1)) (lv' := [(6, .int (nI (i + 1))), (5, .int (0 : Int32)), (3, .long x_9), (1, .long r_7), (0, .ref (ad (0)))]) hx hb dX6_synchronize_209 hl (k := 0) rfl (show nI (i) + 1 = nI (i + 1) from nI_1 _) (by decide) rfl (fun ls hl => ?_)
                refine lv_goto (tgt := 194) hx hb dX6_synchronize_212 (by decide) ?_
                exact ih (i + 1)  M_70 _ _ _ (by omega) (by omega) (wM_70) hv hP hS (lv_sub hl [0, 1, 2, 3, 4] rfl)
              · have hv := hv.trans (if_neg c_69)
                have hc_69 : ¬ i < 8 := fun h => c_69 (nI_lt h (by decide))
                refine lv_iload hx hb dX6_synchronize_215 (lv_at hl 1 rfl) ?_
                refine j0_eq (tgt := 224) hx hb dX6_synchronize_217 (by decide) (fun _ => ?_) (fun c_71 => absurd (by decide) c_71)
                refine lv_iconst (v := 0) hx hb dX6_synchronize_224 (by decide) ?_
                exact W.iret (v := (0 : Int32)) hx hb hr (fun t ht hW => ⟨⟨_, M_194, rfl, ⟨hv.symm.trans eV, hx0_194⟩, by rw [ht]; exact hP, va_K.moved hW.alike hK⟩, hS.F ht⟩) hS.2.2 dX6_synchronize_225
          exact L194 (8 + 1 - 0) 0  M_68 _ _ _ (by omega) (by omega) (wM_68) hv hP hS (lv_sub hl [0, 1, 2, 3, 4] rfl)
    · have hv := hv.trans (if_neg c_10)
      refine lv_lload_n hx hb dX6_synchronize_83 rfl (lv_at hl 1 rfl) ?_
      refine lv_ldc2 (v := 128000) hx hb hown (hts _ q_1138) dX6_synchronize_84 ?_
      refine jL_le (tgt := 95) hx hb dX6_synchronize_87 dX6_synchronize_88 (by decide) (fun c_72 => ?_) (fun c_72 => ?_)
      · have hv := hv.trans (if_pos c_72)
        refine lv_iconst (v := 1) hx hb dX6_synchronize_91 (by decide) ?_
        refine lv_goto (tgt := 96) hx hb dX6_synchronize_92 (by decide) ?_
        refine lv_istore (lv' := [(5, .int (1 : Int32)), (3, .long x_9), (1, .long r_7), (0, .ref (ad (0)))]) hx hb dX6_synchronize_96 hl (by decide) rfl (fun ls hl => ?_)
        refine lv_aload_n hx hb dX6_synchronize_98 rfl (lv_at hl 3 rfl) ?_
        refine lv_iload hx hb dX6_synchronize_99 (lv_at hl 0 rfl) ?_
        refine j0_eq (tgt := 108) hx hb dX6_synchronize_101 (by decide) (fun c_73 => absurd c_73 (by decide)) (fun _ => ?_)
        refine lv_lconst (v := 0) hx hb dX6_synchronize_104 (by decide) ?_
        refine lv_goto (tgt := 113) hx hb dX6_synchronize_105 (by decide) ?_
        refine fp_X6_77 hx hb hts hK hP hI hS hA hown dX6_synchronize_113 (fun H locs hP hS => ?_)
        obtain ⟨M_74, eM_74⟩ : ∃ z : Mem, z = sL M_3 (2) (0 : Int64) := ⟨_, rfl⟩
        rw [← eM_74] at hP
        have hv := bnd_name hv eM_74
        have wM_74 : WFm M_74 := by rw [eM_74]; exact WFm_sL wM_3
        have hgM_74 : gB M_74 7 = gB M_3 7 := by rw [eM_74]; rfl
        refine lv_aload_n hx hb dX6_synchronize_116 rfl (lv_at hl 3 rfl) ?_
        refine lv_dup hx hb dX6_synchronize_117 rfl ?_
        refine fg_X6_52 hx hb hts hK hP hown dX6_synchronize_118 ?_
        refine lv_iload hx hb dX6_synchronize_121 (lv_at hl 0 rfl) ?_
        refine j0_eq (tgt := 134) hx hb dX6_synchronize_123 (by decide) (fun c_75 => absurd c_75 (by decide)) (fun _ => ?_)
        refine lv_lload_n hx hb dX6_synchronize_126 rfl (lv_at hl 2 rfl) ?_
        refine lv_ldc2 (v := 1000000) hx hb hown (hts _ q_914) dX6_synchronize_127 ?_
        refine lv_lmul hx hb dX6_synchronize_130 ?_
        refine lv_goto (tgt := 135) hx hb dX6_synchronize_131 (by decide) ?_
        refine lv_ladd hx hb dX6_synchronize_135 ?_
        refine fp_X6_52 hx hb hts hK hP hI hS hA hown dX6_synchronize_136 (fun H locs hP hS => ?_)
        obtain ⟨M_76, eM_76⟩ : ∃ z : Mem, z = sL M_74 (1) (gL M_74 (1) + (r_7 * (1000000 : Int64))) := ⟨_, rfl⟩
        rw [← eM_76] at hP
        have hv := bnd_name hv eM_76
        have wM_76 : WFm M_76 := by rw [eM_76]; exact WFm_sL wM_74
        have hgM_76 : gB M_76 7 = gB M_74 7 := by rw [eM_76]; rfl
        refine lv_aload_n hx hb dX6_synchronize_139 rfl (lv_at hl 3 rfl) ?_
        refine lv_dup hx hb dX6_synchronize_140 rfl ?_
        refine fg_X6_86 hx hb hts hK hP hown dX6_synchronize_141 ?_
        refine lv_iload hx hb dX6_synchronize_144 (lv_at hl 0 rfl) ?_
        refine j0_eq (tgt := 153) hx hb dX6_synchronize_146 (by decide) (fun c_77 => absurd c_77 (by decide)) (fun _ => ?_)
        refine lv_iconst (v := 1) hx hb dX6_synchronize_149 (by decide) ?_
        refine lv_goto (tgt := 154) hx hb dX6_synchronize_150 (by decide) ?_
        refine lv_iadd hx hb dX6_synchronize_154 ?_
        refine fp_X6_86 hx hb hts hK hP hI hS hA hown dX6_synchronize_155 (fun H locs hP hS => ?_)
        obtain ⟨M_78, eM_78⟩ : ∃ z : Mem, z = sI M_76 (3) (gI M_76 (3) + (1 : Int32)) := ⟨_, rfl⟩
        rw [← eM_78] at hP
        have hv := bnd_name hv eM_78
        have wM_78 : WFm M_78 := by rw [eM_78]; exact WFm_sI wM_76 (by decide)
        have hgM_78 : gB M_78 7 = gB M_76 7 := by rw [eM_78]; rfl
        refine lv_aload_n hx hb dX6_synchronize_158 rfl (lv_at hl 3 rfl) ?_
        refine lv_dup hx hb dX6_synchronize_159 rfl ?_
        refine fg_X6_89 hx hb hts hK hP hown dX6_synchronize_160 ?_
        refine lv_iconst (v := 1) hx hb dX6_synchronize_163 (by decide) ?_
        refine lv_iadd hx hb dX6_synchronize_164 ?_
        refine fp_X6_89 hx hb hts hK hP hI hS hA hown dX6_synchronize_165 (fun H locs hP hS => ?_)
        obtain ⟨M_79, eM_79⟩ : ∃ z : Mem, z = sI M_78 (4) (gI M_78 (4) + (1 : Int32)) := ⟨_, rfl⟩
        rw [← eM_79] at hP
        have hv := bnd_name hv eM_79
        have wM_79 : WFm M_79 := by rw [eM_79]; exact WFm_sI wM_78 (by decide)
        have hgM_79 : gB M_79 7 = gB M_78 7 := by rw [eM_79]; rfl
        refine lv_aload_n hx hb dX6_synchronize_168 rfl (lv_at hl 3 rfl) ?_
        refine lv_aload_n hx hb dX6_synchronize_169 rfl (lv_at hl 3 rfl) ?_
        refine kVl hx hb hml hown hts hK hP hS hA (As := []) (rest := [.ref (ad (0))]) (c_X6_reading l dC dI cA ad hI M_79   wM_79 ) (mkV hts q_928 q_53 q_925 q_927 q_26 hyX6_reading rfl rfl ⟨(Nat.le_of_ble_eq_true rfl), (Nat.le_of_ble_eq_true rfl)⟩) (w_recv hK hP (k := 0) (by decide) lyM0 (q := (RX6, TX6, 26)) rfl) rfl hl.1 rfl (Nat.le_of_ble_eq_true rfl) dX6_synchronize_170 ⟨(Nat.le_of_ble_eq_true rfl), (Nat.le_of_ble_eq_true rfl)⟩ (fun r u H locs hw hP hS _ _ => ?_)
        obtain ⟨hw, hu⟩ := hw
        rw [hu] at hP
        have hv := bnd_name hv hw
        obtain ⟨r_80, er_80⟩ : ∃ z, z = r := ⟨_, rfl⟩
        rw [← er_80] at hv hw
        refine w_eql er_80.symm ?_
        have gr_80 := hw
        refine fp_X6_92 hx hb hts hK hP hI hS hA hown dX6_synchronize_173 (fun H locs hP hS => ?_)
        obtain ⟨M_81, eM_81⟩ : ∃ z : Mem, z = sL M_79 (3) r_80 := ⟨_, rfl⟩
        rw [← eM_81] at hP
        have hv := bnd_name hv eM_81
        have wM_81 : WFm M_81 := by rw [eM_81]; exact WFm_sL wM_79
        have hgM_81 : gB M_81 7 = gB M_79 7 := by rw [eM_81]; rfl
        refine lv_aload_n hx hb dX6_synchronize_176 rfl (lv_at hl 3 rfl) ?_
        refine lv_aload_n hx hb dX6_synchronize_177 rfl (lv_at hl 3 rfl) ?_
        refine fg_X6_17 hx hb hts hK hP hown dX6_synchronize_178 ?_
        refine lv_aload_n hx hb dX6_synchronize_181 rfl (lv_at hl 3 rfl) ?_
        refine kVi hx hb hml hown hts hK hP hS hA (As := []) (rest := [.ref (ad (2)), .ref (ad (0))]) (c_X6_leader l dC dI cA ad hI M_81   wM_81 ) (mkV hts q_1128 q_53 q_1125 q_1127 q_45 hyX6_leader rfl rfl ⟨(Nat.le_of_ble_eq_true rfl), (Nat.le_of_ble_eq_true rfl)⟩) (w_recv hK hP (k := 0) (by decide) lyM0 (q := (RX6, TX6, 26)) rfl) rfl hl.1 rfl (Nat.le_of_ble_eq_true rfl) dX6_synchronize_182 ⟨(Nat.le_of_ble_eq_true rfl), (Nat.le_of_ble_eq_true rfl)⟩ (fun r u H locs hw hP hS _ _ => ?_)
        obtain ⟨hw, hu, hxp⟩ := hw
        rw [hu] at hP
        have hv := bnd_name hv hw
        obtain ⟨r_82, er_82⟩ : ∃ z, z = r := ⟨_, rfl⟩
        rw [← er_82] at hv hw hxp
        refine w_eqi er_82.symm ?_
        have gr_82 := hw
        have pr_82 := hxp
        have hin := (pr_82.resolve_left (fun h => (show ∃ j, j < 8 ∧ ¬ gB M_81 7 j = 0 by rw [hgM_81, hgM_79, hgM_78, hgM_76, hgM_74, hgM_3]; exact hsv0 _ gM_1 c_2).elim fun j hj => hj.2 (h.2 j hj.1)))
        refine w_iald hx hb hK hP (k := 2) (by decide) lyM2 hin dX6_synchronize_185 ?_
        refine lv_iconst (v := 1) hx hb dX6_synchronize_186 (by decide) ?_
        refine lv_iadd hx hb dX6_synchronize_187 ?_
        refine fp_X6_7 hx hb hts hK hP hI hS hA hown dX6_synchronize_188 (fun H locs hP hS => ?_)
        obtain ⟨M_83, eM_83⟩ : ∃ z : Mem, z = sI M_81 (5) (gB M_81 1 (r_82).toNatClampNeg + (1 : Int32)) := ⟨_, rfl⟩
        rw [← eM_83] at hP
        have hv := bnd_name hv eM_83
        have wM_83 : WFm M_83 := by rw [eM_83]; exact WFm_sI wM_81 (by decide)
        have hgM_83 : gB M_83 7 = gB M_81 7 := by rw [eM_83]; rfl
        refine lv_iconst (v := 0) hx hb dX6_synchronize_191 (by decide) ?_
        refine lv_istore (lv' := [(6, .int (0 : Int32)), (5, .int (1 : Int32)), (3, .long x_9), (1, .long r_7), (0, .ref (ad (0)))]) hx hb dX6_synchronize_192 hl (by decide) rfl (fun ls hl => ?_)
        have L194 : ∀ (r i : Nat) (M_194 : Mem) (H : Heap) (locs : List Loc) (ls : Array Slot), i + r = 8 + 1 → i ≤ 8 → (WFm M_194) → V = f_X6_synchronize_L194_5   r i M_194  → va_P (dC, dI) vwCl (wld 12 layM cA ad M_194) H → va_S (adS 12 ad) s.heap H locs → lv_has ls 7 [(6, .int (nI i)), (5, .int (1 : Int32)), (3, .long x_9), (1, .long r_7), (0, .ref (ad (0)))] → W p l e ({ frames := 8, cells := 0, slots := 0, locals := 181 } : Room) s m ([.ref (ad (0))] : List Value).toArray below meth c H locs 0 0 (MQ below (va_Qi (fun r u => (r, u) = f_X6_synchronize M  ∧ WFm u) (PM dC dI cA ad) (adS 12 ad)) ([.ref (ad (0))] : List Value).toArray s 0 0 (adS 12 ad)) (F0 m 194 ls []) := by
          intro r
          induction r with
          | zero =>
            intro i M_194 H locs ls hir hib
            omega
          | succ r ih =>
            intro i M_194 H locs ls hir hib hx0_194 hv hP hS hl
            rw [f_X6_synchronize_L194_5] at hv
            refine lv_iload hx hb dX6_synchronize_194 (lv_at hl 0 rfl) ?_
            refine lv_bipush (v := 8) hx hb dX6_synchronize_196 (by decide) ?_
            refine jI_ge (tgt := 215) hx hb dX6_synchronize_198 (by decide) (fun c_84 => ?_) (fun c_84 => ?_)
            · have hv := hv.trans (if_pos c_84)
              have hc_84 : i < 8 := nI_lt8 (n := 8) c_84 (by omega) (by decide)
              refine lv_aload_n hx hb dX6_synchronize_201 rfl (lv_at hl 4 rfl) ?_
              refine fg_X6_29 hx hb hts hK hP hown dX6_synchronize_202 ?_
              refine lv_iload hx hb dX6_synchronize_205 (lv_at hl 0 rfl) ?_
              refine lv_iconst (v := 0) hx hb dX6_synchronize_207 (by decide) ?_
              refine w_iastN hx hb hK hP hI hS hA (k := 6) (by decide) lyM6 uAM6 (i := i) (by omega) (by decide) dX6_synchronize_208 (fun H locs hP hS => ?_)
              obtain ⟨M_85, eM_85⟩ : ∃ z : Mem, z = sB M_194 5 (upd (gB M_194 5) (i) (0 : Int32)) := ⟨_, rfl⟩
              rw [← eM_85] at hP
              have hv := bnd_name hv eM_85
              have wM_85 : WFm M_85 := by rw [eM_85]; exact WFm_k (0) hx0_194 (by omega) rfl
              have hgM_85 : gB M_85 7 = gB M_194 7 := by rw [eM_85]; rfl
              refine lv_iinc (v := nI (i + 1)) (lv' := [(6, .int (nI (i + 1))), (5, .int (1 : Int32)), (3, .long x_9), (1, .long r_7), (0, .ref (ad (0)))]) hx hb dX6_synchronize_209 hl (k := 0) rfl (show nI (i) + 1 = nI (i + 1) from nI_1 _) (by decide) rfl (fun ls hl => ?_)
              refine lv_goto (tgt := 194) hx hb dX6_synchronize_212 (by decide) ?_
              exact ih (i + 1)  M_85 _ _ _ (by omega) (by omega) (wM_85) hv hP hS (lv_sub hl [0, 1, 2, 3, 4] rfl)
            · have hv := hv.trans (if_neg c_84)
              have hc_84 : ¬ i < 8 := fun h => c_84 (nI_lt h (by decide))
              refine lv_iload hx hb dX6_synchronize_215 (lv_at hl 1 rfl) ?_
              refine j0_eq (tgt := 224) hx hb dX6_synchronize_217 (by decide) (fun c_86 => absurd c_86 (by decide)) (fun _ => ?_)
              refine lv_iconst (v := 1) hx hb dX6_synchronize_220 (by decide) ?_
              refine lv_goto (tgt := 225) hx hb dX6_synchronize_221 (by decide) ?_
              exact W.iret (v := (1 : Int32)) hx hb hr (fun t ht hW => ⟨⟨_, M_194, rfl, ⟨hv.symm.trans eV, hx0_194⟩, by rw [ht]; exact hP, va_K.moved hW.alike hK⟩, hS.F ht⟩) hS.2.2 dX6_synchronize_225
        exact L194 (8 + 1 - 0) 0  M_83 _ _ _ (by omega) (by omega) (wM_83) hv hP hS (lv_sub hl [0, 1, 2, 3, 4] rfl)
      · have hv := hv.trans (if_neg c_72)
        refine lv_iconst (v := 0) hx hb dX6_synchronize_95 (by decide) ?_
        refine lv_istore (lv' := [(5, .int (0 : Int32)), (3, .long x_9), (1, .long r_7), (0, .ref (ad (0)))]) hx hb dX6_synchronize_96 hl (by decide) rfl (fun ls hl => ?_)
        refine lv_aload_n hx hb dX6_synchronize_98 rfl (lv_at hl 3 rfl) ?_
        refine lv_iload hx hb dX6_synchronize_99 (lv_at hl 0 rfl) ?_
        refine j0_eq (tgt := 108) hx hb dX6_synchronize_101 (by decide) (fun _ => ?_) (fun c_87 => absurd (by decide) c_87)
        refine lv_lload_n hx hb dX6_synchronize_108 rfl (lv_at hl 2 rfl) ?_
        refine lv_ldc2 (v := 1000000) hx hb hown (hts _ q_914) dX6_synchronize_109 ?_
        refine lv_lmul hx hb dX6_synchronize_112 ?_
        refine fp_X6_77 hx hb hts hK hP hI hS hA hown dX6_synchronize_113 (fun H locs hP hS => ?_)
        obtain ⟨M_88, eM_88⟩ : ∃ z : Mem, z = sL M_3 (2) (r_7 * (1000000 : Int64)) := ⟨_, rfl⟩
        rw [← eM_88] at hP
        have hv := bnd_name hv eM_88
        have wM_88 : WFm M_88 := by rw [eM_88]; exact WFm_sL wM_3
        have hgM_88 : gB M_88 7 = gB M_3 7 := by rw [eM_88]; rfl
        refine lv_aload_n hx hb dX6_synchronize_116 rfl (lv_at hl 3 rfl) ?_
        refine lv_dup hx hb dX6_synchronize_117 rfl ?_
        refine fg_X6_52 hx hb hts hK hP hown dX6_synchronize_118 ?_
        refine lv_iload hx hb dX6_synchronize_121 (lv_at hl 0 rfl) ?_
        refine j0_eq (tgt := 134) hx hb dX6_synchronize_123 (by decide) (fun _ => ?_) (fun c_89 => absurd (by decide) c_89)
        refine lv_lconst (v := 0) hx hb dX6_synchronize_134 (by decide) ?_
        refine lv_ladd hx hb dX6_synchronize_135 ?_
        refine fp_X6_52 hx hb hts hK hP hI hS hA hown dX6_synchronize_136 (fun H locs hP hS => ?_)
        obtain ⟨M_90, eM_90⟩ : ∃ z : Mem, z = sL M_88 (1) (gL M_88 (1) + (0 : Int64)) := ⟨_, rfl⟩
        rw [← eM_90] at hP
        have hv := bnd_name hv eM_90
        have wM_90 : WFm M_90 := by rw [eM_90]; exact WFm_sL wM_88
        have hgM_90 : gB M_90 7 = gB M_88 7 := by rw [eM_90]; rfl
        refine lv_aload_n hx hb dX6_synchronize_139 rfl (lv_at hl 3 rfl) ?_
        refine lv_dup hx hb dX6_synchronize_140 rfl ?_
        refine fg_X6_86 hx hb hts hK hP hown dX6_synchronize_141 ?_
        refine lv_iload hx hb dX6_synchronize_144 (lv_at hl 0 rfl) ?_
        refine j0_eq (tgt := 153) hx hb dX6_synchronize_146 (by decide) (fun _ => ?_) (fun c_91 => absurd (by decide) c_91)
        refine lv_iconst (v := 0) hx hb dX6_synchronize_153 (by decide) ?_
        refine lv_iadd hx hb dX6_synchronize_154 ?_
        refine fp_X6_86 hx hb hts hK hP hI hS hA hown dX6_synchronize_155 (fun H locs hP hS => ?_)
        obtain ⟨M_92, eM_92⟩ : ∃ z : Mem, z = sI M_90 (3) (gI M_90 (3) + (0 : Int32)) := ⟨_, rfl⟩
        rw [← eM_92] at hP
        have hv := bnd_name hv eM_92
        have wM_92 : WFm M_92 := by rw [eM_92]; exact WFm_sI wM_90 (by decide)
        have hgM_92 : gB M_92 7 = gB M_90 7 := by rw [eM_92]; rfl
        refine lv_aload_n hx hb dX6_synchronize_158 rfl (lv_at hl 3 rfl) ?_
        refine lv_dup hx hb dX6_synchronize_159 rfl ?_
        refine fg_X6_89 hx hb hts hK hP hown dX6_synchronize_160 ?_
        refine lv_iconst (v := 1) hx hb dX6_synchronize_163 (by decide) ?_
        refine lv_iadd hx hb dX6_synchronize_164 ?_
        refine fp_X6_89 hx hb hts hK hP hI hS hA hown dX6_synchronize_165 (fun H locs hP hS => ?_)
        obtain ⟨M_93, eM_93⟩ : ∃ z : Mem, z = sI M_92 (4) (gI M_92 (4) + (1 : Int32)) := ⟨_, rfl⟩
        rw [← eM_93] at hP
        have hv := bnd_name hv eM_93
        have wM_93 : WFm M_93 := by rw [eM_93]; exact WFm_sI wM_92 (by decide)
        have hgM_93 : gB M_93 7 = gB M_92 7 := by rw [eM_93]; rfl
        refine lv_aload_n hx hb dX6_synchronize_168 rfl (lv_at hl 3 rfl) ?_
        refine lv_aload_n hx hb dX6_synchronize_169 rfl (lv_at hl 3 rfl) ?_
        refine kVl hx hb hml hown hts hK hP hS hA (As := []) (rest := [.ref (ad (0))]) (c_X6_reading l dC dI cA ad hI M_93   wM_93 ) (mkV hts q_928 q_53 q_925 q_927 q_26 hyX6_reading rfl rfl ⟨(Nat.le_of_ble_eq_true rfl), (Nat.le_of_ble_eq_true rfl)⟩) (w_recv hK hP (k := 0) (by decide) lyM0 (q := (RX6, TX6, 26)) rfl) rfl hl.1 rfl (Nat.le_of_ble_eq_true rfl) dX6_synchronize_170 ⟨(Nat.le_of_ble_eq_true rfl), (Nat.le_of_ble_eq_true rfl)⟩ (fun r u H locs hw hP hS _ _ => ?_)
        obtain ⟨hw, hu⟩ := hw
        rw [hu] at hP
        have hv := bnd_name hv hw
        obtain ⟨r_94, er_94⟩ : ∃ z, z = r := ⟨_, rfl⟩
        rw [← er_94] at hv hw
        refine w_eql er_94.symm ?_
        have gr_94 := hw
        refine fp_X6_92 hx hb hts hK hP hI hS hA hown dX6_synchronize_173 (fun H locs hP hS => ?_)
        obtain ⟨M_95, eM_95⟩ : ∃ z : Mem, z = sL M_93 (3) r_94 := ⟨_, rfl⟩
        rw [← eM_95] at hP
        have hv := bnd_name hv eM_95
        have wM_95 : WFm M_95 := by rw [eM_95]; exact WFm_sL wM_93
        have hgM_95 : gB M_95 7 = gB M_93 7 := by rw [eM_95]; rfl
        refine lv_aload_n hx hb dX6_synchronize_176 rfl (lv_at hl 3 rfl) ?_
        refine lv_aload_n hx hb dX6_synchronize_177 rfl (lv_at hl 3 rfl) ?_
        refine fg_X6_17 hx hb hts hK hP hown dX6_synchronize_178 ?_
        refine lv_aload_n hx hb dX6_synchronize_181 rfl (lv_at hl 3 rfl) ?_
        refine kVi hx hb hml hown hts hK hP hS hA (As := []) (rest := [.ref (ad (2)), .ref (ad (0))]) (c_X6_leader l dC dI cA ad hI M_95   wM_95 ) (mkV hts q_1128 q_53 q_1125 q_1127 q_45 hyX6_leader rfl rfl ⟨(Nat.le_of_ble_eq_true rfl), (Nat.le_of_ble_eq_true rfl)⟩) (w_recv hK hP (k := 0) (by decide) lyM0 (q := (RX6, TX6, 26)) rfl) rfl hl.1 rfl (Nat.le_of_ble_eq_true rfl) dX6_synchronize_182 ⟨(Nat.le_of_ble_eq_true rfl), (Nat.le_of_ble_eq_true rfl)⟩ (fun r u H locs hw hP hS _ _ => ?_)
        obtain ⟨hw, hu, hxp⟩ := hw
        rw [hu] at hP
        have hv := bnd_name hv hw
        obtain ⟨r_96, er_96⟩ : ∃ z, z = r := ⟨_, rfl⟩
        rw [← er_96] at hv hw hxp
        refine w_eqi er_96.symm ?_
        have gr_96 := hw
        have pr_96 := hxp
        have hin := (pr_96.resolve_left (fun h => (show ∃ j, j < 8 ∧ ¬ gB M_95 7 j = 0 by rw [hgM_95, hgM_93, hgM_92, hgM_90, hgM_88, hgM_3]; exact hsv0 _ gM_1 c_2).elim fun j hj => hj.2 (h.2 j hj.1)))
        refine w_iald hx hb hK hP (k := 2) (by decide) lyM2 hin dX6_synchronize_185 ?_
        refine lv_iconst (v := 1) hx hb dX6_synchronize_186 (by decide) ?_
        refine lv_iadd hx hb dX6_synchronize_187 ?_
        refine fp_X6_7 hx hb hts hK hP hI hS hA hown dX6_synchronize_188 (fun H locs hP hS => ?_)
        obtain ⟨M_97, eM_97⟩ : ∃ z : Mem, z = sI M_95 (5) (gB M_95 1 (r_96).toNatClampNeg + (1 : Int32)) := ⟨_, rfl⟩
        rw [← eM_97] at hP
        have hv := bnd_name hv eM_97
        have wM_97 : WFm M_97 := by rw [eM_97]; exact WFm_sI wM_95 (by decide)
        have hgM_97 : gB M_97 7 = gB M_95 7 := by rw [eM_97]; rfl
        refine lv_iconst (v := 0) hx hb dX6_synchronize_191 (by decide) ?_
        refine lv_istore (lv' := [(6, .int (0 : Int32)), (5, .int (0 : Int32)), (3, .long x_9), (1, .long r_7), (0, .ref (ad (0)))]) hx hb dX6_synchronize_192 hl (by decide) rfl (fun ls hl => ?_)
        have L194 : ∀ (r i : Nat) (M_194 : Mem) (H : Heap) (locs : List Loc) (ls : Array Slot), i + r = 8 + 1 → i ≤ 8 → (WFm M_194) → V = f_X6_synchronize_L194_6   r i M_194  → va_P (dC, dI) vwCl (wld 12 layM cA ad M_194) H → va_S (adS 12 ad) s.heap H locs → lv_has ls 7 [(6, .int (nI i)), (5, .int (0 : Int32)), (3, .long x_9), (1, .long r_7), (0, .ref (ad (0)))] → W p l e ({ frames := 8, cells := 0, slots := 0, locals := 181 } : Room) s m ([.ref (ad (0))] : List Value).toArray below meth c H locs 0 0 (MQ below (va_Qi (fun r u => (r, u) = f_X6_synchronize M  ∧ WFm u) (PM dC dI cA ad) (adS 12 ad)) ([.ref (ad (0))] : List Value).toArray s 0 0 (adS 12 ad)) (F0 m 194 ls []) := by
          intro r
          induction r with
          | zero =>
            intro i M_194 H locs ls hir hib
            omega
          | succ r ih =>
            intro i M_194 H locs ls hir hib hx0_194 hv hP hS hl
            rw [f_X6_synchronize_L194_6] at hv
            refine lv_iload hx hb dX6_synchronize_194 (lv_at hl 0 rfl) ?_
            refine lv_bipush (v := 8) hx hb dX6_synchronize_196 (by decide) ?_
            refine jI_ge (tgt := 215) hx hb dX6_synchronize_198 (by decide) (fun c_98 => ?_) (fun c_98 => ?_)
            · have hv := hv.trans (if_pos c_98)
              have hc_98 : i < 8 := nI_lt8 (n := 8) c_98 (by omega) (by decide)
              refine lv_aload_n hx hb dX6_synchronize_201 rfl (lv_at hl 4 rfl) ?_
              refine fg_X6_29 hx hb hts hK hP hown dX6_synchronize_202 ?_
              refine lv_iload hx hb dX6_synchronize_205 (lv_at hl 0 rfl) ?_
              refine lv_iconst (v := 0) hx hb dX6_synchronize_207 (by decide) ?_
              refine w_iastN hx hb hK hP hI hS hA (k := 6) (by decide) lyM6 uAM6 (i := i) (by omega) (by decide) dX6_synchronize_208 (fun H locs hP hS => ?_)
              obtain ⟨M_99, eM_99⟩ : ∃ z : Mem, z = sB M_194 5 (upd (gB M_194 5) (i) (0 : Int32)) := ⟨_, rfl⟩
              rw [← eM_99] at hP
              have hv := bnd_name hv eM_99
              have wM_99 : WFm M_99 := by rw [eM_99]; exact WFm_k (0) hx0_194 (by omega) rfl
              have hgM_99 : gB M_99 7 = gB M_194 7 := by rw [eM_99]; rfl
              refine lv_iinc (v := nI (i + 1)) (lv' := [(6, .int (nI (i + 1))), (5, .int (0 : Int32)), (3, .long x_9), (1, .long r_7), (0, .ref (ad (0)))]) hx hb dX6_synchronize_209 hl (k := 0) rfl (show nI (i) + 1 = nI (i + 1) from nI_1 _) (by decide) rfl (fun ls hl => ?_)
              refine lv_goto (tgt := 194) hx hb dX6_synchronize_212 (by decide) ?_
              exact ih (i + 1)  M_99 _ _ _ (by omega) (by omega) (wM_99) hv hP hS (lv_sub hl [0, 1, 2, 3, 4] rfl)
            · have hv := hv.trans (if_neg c_98)
              have hc_98 : ¬ i < 8 := fun h => c_98 (nI_lt h (by decide))
              refine lv_iload hx hb dX6_synchronize_215 (lv_at hl 1 rfl) ?_
              refine j0_eq (tgt := 224) hx hb dX6_synchronize_217 (by decide) (fun _ => ?_) (fun c_100 => absurd (by decide) c_100)
              refine lv_iconst (v := 0) hx hb dX6_synchronize_224 (by decide) ?_
              exact W.iret (v := (0 : Int32)) hx hb hr (fun t ht hW => ⟨⟨_, M_194, rfl, ⟨hv.symm.trans eV, hx0_194⟩, by rw [ht]; exact hP, va_K.moved hW.alike hK⟩, hS.F ht⟩) hS.2.2 dX6_synchronize_225
        exact L194 (8 + 1 - 0) 0  M_97 _ _ _ (by omega) (by omega) (wM_97) hv hP hS (lv_sub hl [0, 1, 2, 3, 4] rfl)
  · have hv := hv.trans (if_neg c_2)
    refine lv_iconst (v := 1) hx hb dX6_synchronize_22 (by decide) ?_
    refine kVi hx hb hml hown hts hK hP hS hA (As := [.int (1 : Int32)]) (rest := []) (c_X6_refused l dC dI cA ad hI M_1  (1 : Int32) wM_1 ) (mkV hts q_913 q_53 q_910 q_912 q_24 hyX6_refused rfl rfl ⟨(Nat.le_of_ble_eq_true rfl), (Nat.le_of_ble_eq_true rfl)⟩) (w_recv hK hP (k := 0) (by decide) lyM0 (q := (RX6, TX6, 26)) rfl) rfl hl.1 rfl (Nat.le_of_ble_eq_true rfl) dX6_synchronize_23 ⟨(Nat.le_of_ble_eq_true rfl), (Nat.le_of_ble_eq_true rfl)⟩ (fun r u H locs hw hP hS _ _ => ?_)
    obtain ⟨M_101, eM_101⟩ : ∃ z, z = u := ⟨_, rfl⟩
    rw [← eM_101] at hP hw
    obtain ⟨r_102, er_102⟩ : ∃ z, z = r := ⟨_, rfl⟩
    rw [← er_102] at hw
    refine w_eqi er_102.symm ?_
    obtain ⟨hw, wM_101⟩ := hw
    have gM_101 := hw
    have hgM_101 : gB M_101 7 = gB M_1 7 := congrArg (fun z : Int32 × Mem => gB z.2 7) hw
    have hv := bnd2_name hv hw
    have lr_102 : r_102 = 1 := congrArg Prod.fst hw
    refine w_eqi lr_102 ?_
    refine j0_eq (tgt := 31) hx hb dX6_synchronize_26 (by decide) (fun c_104 => absurd c_104 (by decide)) (fun _ => ?_)
    refine lv_iconst (v := 0) hx hb dX6_synchronize_29 (by decide) ?_
    exact W.iret (v := (0 : Int32)) hx hb hr (fun t ht hW => ⟨⟨_, M_101, rfl, ⟨hv.symm.trans eV, wM_101⟩, by rw [ht]; exact hP, va_K.moved hW.alike hK⟩, hS.F ht⟩) hS.2.2 dX6_synchronize_30
def f_X6_stratum (M : Mem)  : Int32 × Mem := bnd2 (f_X6_fine M  (gI M (5))) fun r_2 M_1 => (r_2, M_1)
theorem hyX6_stratum : yX6_stratum.cls ≠ "java/lang/invoke/MethodHandle" ∧ yX6_stratum.cls ≠ "java/lang/invoke/VarHandle" ∧ (parseMethodDescriptor yX6_stratum.desc).map (fun d => d.parameters.length) = some 0 := by decide +kernel
set_option maxHeartbeats 4000000 in
set_option maxRecDepth 100000 in
theorem c_X6_stratum (l : Launch) (dC : Nat → ClassId) (dI : Nat → Nat → Nat) (cA : Nat → ClassId) (ad : Nat → Nat) (hI : Inj 12 ad) (M : Mem) (hw0 : WFm M)  : Met l yX6_stratum (.code yX6_stratum cX6_stratum 1 (some .int) :: AG) ({ frames := 1, cells := 0, slots := 0, locals := 21 } : Room) (va_Pc [.ref (ad (0))] (PM dC dI cA ad M)) (va_Qi (fun r u => (r, u) = f_X6_stratum M  ∧ WFm u) (PM dC dI cA ad) (adS 12 ad)) 0 0 (adS 12 ad) := by
  refine cMet (by decide) (Nat.le_of_ble_eq_true rfl) ?_
  intro p e s m below meth c ls hx hb hr hml hlocks hown hts hK hP hS hl
  have hA : ∀ q, adS 12 ad q → adS 12 ad q := fun _ h => h
  have hl : lv_has ls 1 [(0, .ref (ad (0)))] := hl
  obtain ⟨V, eV⟩ : ∃ z, z = f_X6_stratum M  := ⟨_, rfl⟩
  have hv := eV
  unfold f_X6_stratum at hv
  refine lv_aload_n hx hb dX6_stratum_0 rfl (lv_at hl 0 rfl) ?_
  refine lv_aload_n hx hb dX6_stratum_1 rfl (lv_at hl 0 rfl) ?_
  refine fg_X6_7 hx hb hts hK hP hown dX6_stratum_2 ?_
  refine kVi hx hb hml hown hts hK hP hS hA (As := [.int (gI M (5))]) (rest := []) (c_X6_fine l dC dI cA ad hI M  (gI M (5)) hw0 ) (mkV hts q_965 q_53 q_962 q_964 q_28 hyX6_fine rfl rfl ⟨(Nat.le_of_ble_eq_true rfl), (Nat.le_of_ble_eq_true rfl)⟩) (w_recv hK hP (k := 0) (by decide) lyM0 (q := (RX6, TX6, 26)) rfl) rfl hl.1 rfl (Nat.le_of_ble_eq_true rfl) dX6_stratum_5 ⟨(Nat.le_of_ble_eq_true rfl), (Nat.le_of_ble_eq_true rfl)⟩ (fun r u H locs hw hP hS _ _ => ?_)
  obtain ⟨M_1, eM_1⟩ : ∃ z, z = u := ⟨_, rfl⟩
  rw [← eM_1] at hP hw
  obtain ⟨r_2, er_2⟩ : ∃ z, z = r := ⟨_, rfl⟩
  rw [← er_2] at hw
  refine w_eqi er_2.symm ?_
  obtain ⟨hw, wM_1⟩ := hw
  have gM_1 := hw
  have hv := bnd2_name hv hw
  exact W.iret (v := r_2) hx hb hr (fun t ht hW => ⟨⟨_, M_1, rfl, ⟨hv.symm.trans eV, wM_1⟩, by rw [ht]; exact hP, va_K.moved hW.alike hK⟩, hS.F ht⟩) hS.2.2 dX6_stratum_8
def f_X6_steps (M : Mem)  : Int32 × Mem := bnd2 (f_X6_fine M  (gI M (3))) fun r_2 M_1 => (r_2, M_1)
theorem hyX6_steps : yX6_steps.cls ≠ "java/lang/invoke/MethodHandle" ∧ yX6_steps.cls ≠ "java/lang/invoke/VarHandle" ∧ (parseMethodDescriptor yX6_steps.desc).map (fun d => d.parameters.length) = some 0 := by decide +kernel
set_option maxHeartbeats 4000000 in
set_option maxRecDepth 100000 in
theorem c_X6_steps (l : Launch) (dC : Nat → ClassId) (dI : Nat → Nat → Nat) (cA : Nat → ClassId) (ad : Nat → Nat) (hI : Inj 12 ad) (M : Mem) (hw0 : WFm M)  : Met l yX6_steps (.code yX6_steps cX6_steps 1 (some .int) :: AG) ({ frames := 1, cells := 0, slots := 0, locals := 21 } : Room) (va_Pc [.ref (ad (0))] (PM dC dI cA ad M)) (va_Qi (fun r u => (r, u) = f_X6_steps M  ∧ WFm u) (PM dC dI cA ad) (adS 12 ad)) 0 0 (adS 12 ad) := by
  refine cMet (by decide) (Nat.le_of_ble_eq_true rfl) ?_
  intro p e s m below meth c ls hx hb hr hml hlocks hown hts hK hP hS hl
  have hA : ∀ q, adS 12 ad q → adS 12 ad q := fun _ h => h
  have hl : lv_has ls 1 [(0, .ref (ad (0)))] := hl
  obtain ⟨V, eV⟩ : ∃ z, z = f_X6_steps M  := ⟨_, rfl⟩
  have hv := eV
  unfold f_X6_steps at hv
  refine lv_aload_n hx hb dX6_steps_0 rfl (lv_at hl 0 rfl) ?_
  refine lv_aload_n hx hb dX6_steps_1 rfl (lv_at hl 0 rfl) ?_
  refine fg_X6_86 hx hb hts hK hP hown dX6_steps_2 ?_
  refine kVi hx hb hml hown hts hK hP hS hA (As := [.int (gI M (3))]) (rest := []) (c_X6_fine l dC dI cA ad hI M  (gI M (3)) hw0 ) (mkV hts q_965 q_53 q_962 q_964 q_28 hyX6_fine rfl rfl ⟨(Nat.le_of_ble_eq_true rfl), (Nat.le_of_ble_eq_true rfl)⟩) (w_recv hK hP (k := 0) (by decide) lyM0 (q := (RX6, TX6, 26)) rfl) rfl hl.1 rfl (Nat.le_of_ble_eq_true rfl) dX6_steps_5 ⟨(Nat.le_of_ble_eq_true rfl), (Nat.le_of_ble_eq_true rfl)⟩ (fun r u H locs hw hP hS _ _ => ?_)
  obtain ⟨M_1, eM_1⟩ : ∃ z, z = u := ⟨_, rfl⟩
  rw [← eM_1] at hP hw
  obtain ⟨r_2, er_2⟩ : ∃ z, z = r := ⟨_, rfl⟩
  rw [← er_2] at hw
  refine w_eqi er_2.symm ?_
  obtain ⟨hw, wM_1⟩ := hw
  have gM_1 := hw
  have hv := bnd2_name hv hw
  exact W.iret (v := r_2) hx hb hr (fun t ht hW => ⟨⟨_, M_1, rfl, ⟨hv.symm.trans eV, wM_1⟩, by rw [ht]; exact hP, va_K.moved hW.alike hK⟩, hS.F ht⟩) hS.2.2 dX6_steps_8
def f_X6_synchronizations (M : Mem)  : Int32 × Mem := bnd2 (f_X6_fine M  (gI M (4))) fun r_2 M_1 => (r_2, M_1)
theorem hyX6_synchronizations : yX6_synchronizations.cls ≠ "java/lang/invoke/MethodHandle" ∧ yX6_synchronizations.cls ≠ "java/lang/invoke/VarHandle" ∧ (parseMethodDescriptor yX6_synchronizations.desc).map (fun d => d.parameters.length) = some 0 := by decide +kernel
set_option maxHeartbeats 4000000 in
set_option maxRecDepth 100000 in
theorem c_X6_synchronizations (l : Launch) (dC : Nat → ClassId) (dI : Nat → Nat → Nat) (cA : Nat → ClassId) (ad : Nat → Nat) (hI : Inj 12 ad) (M : Mem) (hw0 : WFm M)  : Met l yX6_synchronizations (.code yX6_synchronizations cX6_synchronizations 1 (some .int) :: AG) ({ frames := 1, cells := 0, slots := 0, locals := 21 } : Room) (va_Pc [.ref (ad (0))] (PM dC dI cA ad M)) (va_Qi (fun r u => (r, u) = f_X6_synchronizations M  ∧ WFm u) (PM dC dI cA ad) (adS 12 ad)) 0 0 (adS 12 ad) := by
  refine cMet (by decide) (Nat.le_of_ble_eq_true rfl) ?_
  intro p e s m below meth c ls hx hb hr hml hlocks hown hts hK hP hS hl
  have hA : ∀ q, adS 12 ad q → adS 12 ad q := fun _ h => h
  have hl : lv_has ls 1 [(0, .ref (ad (0)))] := hl
  obtain ⟨V, eV⟩ : ∃ z, z = f_X6_synchronizations M  := ⟨_, rfl⟩
  have hv := eV
  unfold f_X6_synchronizations at hv
  refine lv_aload_n hx hb dX6_synchronizations_0 rfl (lv_at hl 0 rfl) ?_
  refine lv_aload_n hx hb dX6_synchronizations_1 rfl (lv_at hl 0 rfl) ?_
  refine fg_X6_89 hx hb hts hK hP hown dX6_synchronizations_2 ?_
  refine kVi hx hb hml hown hts hK hP hS hA (As := [.int (gI M (4))]) (rest := []) (c_X6_fine l dC dI cA ad hI M  (gI M (4)) hw0 ) (mkV hts q_965 q_53 q_962 q_964 q_28 hyX6_fine rfl rfl ⟨(Nat.le_of_ble_eq_true rfl), (Nat.le_of_ble_eq_true rfl)⟩) (w_recv hK hP (k := 0) (by decide) lyM0 (q := (RX6, TX6, 26)) rfl) rfl hl.1 rfl (Nat.le_of_ble_eq_true rfl) dX6_synchronizations_5 ⟨(Nat.le_of_ble_eq_true rfl), (Nat.le_of_ble_eq_true rfl)⟩ (fun r u H locs hw hP hS _ _ => ?_)
  obtain ⟨M_1, eM_1⟩ : ∃ z, z = u := ⟨_, rfl⟩
  rw [← eM_1] at hP hw
  obtain ⟨r_2, er_2⟩ : ∃ z, z = r := ⟨_, rfl⟩
  rw [← er_2] at hw
  refine w_eqi er_2.symm ?_
  obtain ⟨hw, wM_1⟩ := hw
  have gM_1 := hw
  have hv := bnd2_name hv hw
  exact W.iret (v := r_2) hx hb hr (fun t ht hW => ⟨⟨_, M_1, rfl, ⟨hv.symm.trans eV, wM_1⟩, by rw [ht]; exact hP, va_K.moved hW.alike hK⟩, hS.F ht⟩) hS.2.2 dX6_synchronizations_8
