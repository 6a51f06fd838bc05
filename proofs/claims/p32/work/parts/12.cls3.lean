def f_X3_contains (p0 : Int32) (p1 : Int32) : Int32 := if ((p0 >>> (p1 &&& 31)) &&& (1 : Int32)) = (0 : Int32) then (0 : Int32) else (1 : Int32)
theorem hyX3_contains : yX3_contains.cls ≠ "java/lang/invoke/MethodHandle" ∧ yX3_contains.cls ≠ "java/lang/invoke/VarHandle" ∧ (parseMethodDescriptor yX3_contains.desc).map (fun d => d.parameters.length) = some 2 := by decide +kernel
set_option maxHeartbeats 4000000 in
set_option maxRecDepth 100000 in
theorem c_X3_contains (l : Launch) (p0 : Int32) (p1 : Int32)  : Met l yX3_contains (.code yX3_contains cX3_contains 2 (some .boolean) :: AG) ({ frames := 0, cells := 0, slots := 0, locals := 0 } : Room) (fun v _ => v = ([.int p0, .int p1] : List Value).toArray) (vp_Si (fun r => r = f_X3_contains p0 p1)) 0 0 (fun _ => False) := by
  refine sMet (by decide) (Nat.le_of_ble_eq_true rfl) ?_
  intro p e s m below meth c ls hx hb hr hml hlocks hown hts hl
  have hl : lv_has ls 2 [(0, .int p0), (1, .int p1)] := hl
  obtain ⟨V, eV⟩ : ∃ z, z = f_X3_contains p0 p1 := ⟨_, rfl⟩
  have hv := eV
  unfold f_X3_contains at hv
  refine lv_iload_n hx hb dX3_contains_0 rfl (lv_at hl 0 rfl) ?_
  refine lv_iload_n hx hb dX3_contains_1 rfl (lv_at hl 1 rfl) ?_
  refine lv_ishr hx hb dX3_contains_2 ?_
  refine lv_iconst (v := 1) hx hb dX3_contains_3 (by decide) ?_
  refine lv_iand hx hb dX3_contains_4 ?_
  refine j0_eq (tgt := 12) hx hb dX3_contains_5 (by decide) (fun c_1 => ?_) (fun c_1 => ?_)
  · have hv := hv.trans (if_pos c_1)
    refine lv_iconst (v := 0) hx hb dX3_contains_12 (by decide) ?_
    exact W.zret (v := (0 : Int32)) hx hb hr rfl (fun t ht hW => ⟨_, rfl, hv.symm.trans eV, ht⟩) (fun q h => nomatch h) dX3_contains_13
  · have hv := hv.trans (if_neg c_1)
    refine lv_iconst (v := 1) hx hb dX3_contains_8 (by decide) ?_
    refine lv_goto (tgt := 13) hx hb dX3_contains_9 (by decide) ?_
    exact W.zret (v := (1 : Int32)) hx hb hr rfl (fun t ht hW => ⟨_, rfl, hv.symm.trans eV, ht⟩) (fun q h => nomatch h) dX3_contains_13
theorem f_X3_contains_b (p0 : Int32) (p1 : Int32) : (f_X3_contains p0 p1) = 0 ∨ (f_X3_contains p0 p1) = 1 := by
  unfold f_X3_contains
  repeat' (first | with_reducible refine bnd_or (fun _ => ?_) | with_reducible refine bnd2_or (fun _ _ => ?_) | with_reducible refine ite_or ?_ ?_ | exact Or.inl rfl | exact Or.inr rfl)
def f_X3_clear (M : Mem)  : Mem := bnd (sI M (8) (0 : Int32)) fun M_1 => bnd (sI M_1 (9) (0 : Int32)) fun M_2 => bnd (sI M_2 (10) (0 : Int32)) fun M_3 => bnd (sL M_3 (4) (0 : Int64)) fun M_4 => bnd (sL M_4 (5) (0 : Int64)) fun M_5 => M_5
theorem hyX3_clear : yX3_clear.cls ≠ "java/lang/invoke/MethodHandle" ∧ yX3_clear.cls ≠ "java/lang/invoke/VarHandle" ∧ (parseMethodDescriptor yX3_clear.desc).map (fun d => d.parameters.length) = some 0 := by decide +kernel
set_option maxHeartbeats 4000000 in
set_option maxRecDepth 100000 in
theorem c_X3_clear (l : Launch) (dC : Nat → ClassId) (dI : Nat → Nat → Nat) (cA : Nat → ClassId) (ad : Nat → Nat) (hI : Inj 69 ad) (M : Mem)   : Met l yX3_clear (.code yX3_clear cX3_clear 1 none :: AG) ({ frames := 0, cells := 0, slots := 0, locals := 0 } : Room) (va_Pc [.ref (ad (4))] (PC dC dI cA ad M)) (va_Qv (fun u => u = f_X3_clear M ) (PC dC dI cA ad) (adS 69 ad)) 0 0 (adS 69 ad) := by
  refine cMet (by decide) (Nat.le_of_ble_eq_true rfl) ?_
  intro p e s m below meth c ls hx hb hr hml hlocks hown hts hK hP hS hl
  have hA : ∀ q, adS 69 ad q → adS 69 ad q := fun _ h => h
  have hl : lv_has ls 1 [(0, .ref (ad (4)))] := hl
  obtain ⟨V, eV⟩ : ∃ z, z = f_X3_clear M  := ⟨_, rfl⟩
  have hv := eV
  unfold f_X3_clear at hv
  refine lv_aload_n hx hb dX3_clear_0 rfl (lv_at hl 0 rfl) ?_
  refine lv_iconst (v := 0) hx hb dX3_clear_1 (by decide) ?_
  refine fp_X3_27 hx hb hts hK hP hI hS hA hown dX3_clear_2 (fun H locs hP hS => ?_)
  obtain ⟨M_1, eM_1⟩ : ∃ z : Mem, z = sI M (8) (0 : Int32) := ⟨_, rfl⟩
  rw [← eM_1] at hP
  have hv := bnd_name hv eM_1
  refine lv_aload_n hx hb dX3_clear_5 rfl (lv_at hl 0 rfl) ?_
  refine lv_iconst (v := 0) hx hb dX3_clear_6 (by decide) ?_
  refine fp_X3_31 hx hb hts hK hP hI hS hA hown dX3_clear_7 (fun H locs hP hS => ?_)
  obtain ⟨M_2, eM_2⟩ : ∃ z : Mem, z = sI M_1 (9) (0 : Int32) := ⟨_, rfl⟩
  rw [← eM_2] at hP
  have hv := bnd_name hv eM_2
  refine lv_aload_n hx hb dX3_clear_10 rfl (lv_at hl 0 rfl) ?_
  refine lv_iconst (v := 0) hx hb dX3_clear_11 (by decide) ?_
  refine fp_X3_34 hx hb hts hK hP hI hS hA hown dX3_clear_12 (fun H locs hP hS => ?_)
  obtain ⟨M_3, eM_3⟩ : ∃ z : Mem, z = sI M_2 (10) (0 : Int32) := ⟨_, rfl⟩
  rw [← eM_3] at hP
  have hv := bnd_name hv eM_3
  refine lv_aload_n hx hb dX3_clear_15 rfl (lv_at hl 0 rfl) ?_
  refine lv_lconst (v := 0) hx hb dX3_clear_16 (by decide) ?_
  refine fp_X3_37 hx hb hts hK hP hI hS hA hown dX3_clear_17 (fun H locs hP hS => ?_)
  obtain ⟨M_4, eM_4⟩ : ∃ z : Mem, z = sL M_3 (4) (0 : Int64) := ⟨_, rfl⟩
  rw [← eM_4] at hP
  have hv := bnd_name hv eM_4
  refine lv_aload_n hx hb dX3_clear_20 rfl (lv_at hl 0 rfl) ?_
  refine lv_lconst (v := 0) hx hb dX3_clear_21 (by decide) ?_
  refine fp_X3_41 hx hb hts hK hP hI hS hA hown dX3_clear_22 (fun H locs hP hS => ?_)
  obtain ⟨M_5, eM_5⟩ : ∃ z : Mem, z = sL M_4 (5) (0 : Int64) := ⟨_, rfl⟩
  rw [← eM_5] at hP
  have hv := bnd_name hv eM_5
  exact W.vret hx hb hr (fun t ht hW => ⟨⟨M_5, rfl, hv.symm.trans eV, by rw [ht]; exact hP, va_K.moved hW.alike hK⟩, hS.F ht⟩) hS.2.2 dX3_clear_25
def f_X3_enter (M : Mem) (p0 : Int32) (k1 : Nat) (p2 : Int64) : Mem := bnd (f_X4_bestOffset M (k1) ) fun r_1 => bnd (f_X2_put M (0) p0 r_1) fun M_2 => bnd (f_X4_distanceAt M_2 (k1) p2) fun r_3 => bnd (f_X2_put M_2 (1) p0 r_3) fun M_4 => bnd (f_X4_offsetJitter M_4 (k1) ) fun r_5 => bnd (f_X2_put M_4 (2) p0 r_5) fun M_6 => bnd (f_X4_ownStratum M_6 (k1) ) fun r_7 => bnd (f_X2_put M_6 (3) p0 ((r_7).toInt64)) fun M_8 => bnd (sI M_8 (8) (gI M_8 (8) ||| ((1 : Int32) <<< (p0 &&& 31)))) fun M_9 => M_9
theorem hyX3_enter : yX3_enter.cls ≠ "java/lang/invoke/MethodHandle" ∧ yX3_enter.cls ≠ "java/lang/invoke/VarHandle" ∧ (parseMethodDescriptor yX3_enter.desc).map (fun d => d.parameters.length) = some 3 := by decide +kernel
set_option maxHeartbeats 4000000 in
set_option maxRecDepth 100000 in
theorem c_X3_enter (l : Launch) (dC : Nat → ClassId) (dI : Nat → Nat → Nat) (cA : Nat → ClassId) (ad : Nat → Nat) (hI : Inj 69 ad) (M : Mem) (p0 : Int32) (k1 : Nat) (hk1 : k1 < 8) (p2 : Int64)  : Met l yX3_enter (.code yX3_enter cX3_enter 5 none :: AG) ({ frames := 3, cells := 0, slots := 0, locals := 72 } : Room) (va_Pc [.ref (ad (4)), .int p0, .ref (ad (5 + k1)), .long p2] (PC dC dI cA ad M)) (va_Qv (fun u => u = f_X3_enter M p0 k1 p2) (PC dC dI cA ad) (adS 69 ad)) 0 0 (adS 69 ad) := by
  refine cMet (by decide) (Nat.le_of_ble_eq_true rfl) ?_
  intro p e s m below meth c ls hx hb hr hml hlocks hown hts hK hP hS hl
  have hA : ∀ q, adS 69 ad q → adS 69 ad q := fun _ h => h
  have hl : lv_has ls 5 [(0, .ref (ad (4))), (1, .int p0), (2, .ref (ad (5 + k1))), (3, .long p2)] := hl
  obtain ⟨V, eV⟩ : ∃ z, z = f_X3_enter M p0 k1 p2 := ⟨_, rfl⟩
  have hv := eV
  unfold f_X3_enter at hv
  refine lv_aload_n hx hb dX3_enter_0 rfl (lv_at hl 0 rfl) ?_
  refine fg_X3_12 hx hb hts hK hP hown dX3_enter_1 ?_
  refine lv_iload_n hx hb dX3_enter_4 rfl (lv_at hl 1 rfl) ?_
  refine lv_aload_n hx hb dX3_enter_5 rfl (lv_at hl 2 rfl) ?_
  refine kVl hx hb hml hown hts hK hP hS hA (As := []) (rest := [.int p0, .ref (ad (13 + 0))]) (c_X4_bestOffset l dC dI cA ad hI M (k1) (by omega)  ) (mkV hts q_319 q_52 q_316 q_317 q_318 hyX4_bestOffset rfl rfl ⟨(Nat.le_of_ble_eq_true rfl), (Nat.le_of_ble_eq_true rfl)⟩) (w_recv hK hP (k := 5 + k1) (by omega) (lyCs (k := k1) (by omega)) (q := (RX4, TX4, 9)) rfl) rfl hl.1 rfl (Nat.le_of_ble_eq_true rfl) dX3_enter_6 ⟨(Nat.le_of_ble_eq_true rfl), (Nat.le_of_ble_eq_true rfl)⟩ (fun r u H locs hw hP hS _ _ => ?_)
  obtain ⟨hw, hu⟩ := hw
  rw [hu] at hP
  have hv := bnd_name hv hw
  obtain ⟨r_1, er_1⟩ : ∃ z, z = r := ⟨_, rfl⟩
  rw [← er_1] at hv hw
  refine w_eql er_1.symm ?_
  have gr_1 := hw
  refine kVv hx hb hml hown hts hK hP hS hA (As := [.int p0, .long r_1]) (rest := []) (c_X2_put l dC dI cA ad hI M (0) (by omega) p0 r_1 ) (mkV hts q_327 q_51 q_324 q_325 q_326 hyX2_put rfl rfl ⟨(Nat.le_of_ble_eq_true rfl), (Nat.le_of_ble_eq_true rfl)⟩) (w_recv hK hP (k := 13 + 0) (by omega) (lyCr (k := 0) (by omega)) (q := (RX2, TX2, 1)) rfl) rfl hl.1 rfl (Nat.le_of_ble_eq_true rfl) dX3_enter_9 ⟨(Nat.le_of_ble_eq_true rfl), (Nat.le_of_ble_eq_true rfl)⟩ (fun u H locs hw hP hS _ _ => ?_)
  obtain ⟨M_2, eM_2⟩ : ∃ z, z = u := ⟨_, rfl⟩
  rw [← eM_2] at hP hw
  have gM_2 := hw
  have hv := bnd_name hv hw
  refine lv_aload_n hx hb dX3_enter_12 rfl (lv_at hl 0 rfl) ?_
  refine fg_X3_18 hx hb hts hK hP hown dX3_enter_13 ?_
  refine lv_iload_n hx hb dX3_enter_16 rfl (lv_at hl 1 rfl) ?_
  refine lv_aload_n hx hb dX3_enter_17 rfl (lv_at hl 2 rfl) ?_
  refine lv_lload_n hx hb dX3_enter_18 rfl (lv_at hl 3 rfl) ?_
  refine kVl hx hb hml hown hts hK hP hS hA (As := [.long p2]) (rest := [.int p0, .ref (ad (13 + 1))]) (c_X4_distanceAt l dC dI cA ad hI M_2 (k1) (by omega) p2 ) (mkV hts q_331 q_52 q_328 q_329 q_330 hyX4_distanceAt rfl rfl ⟨(Nat.le_of_ble_eq_true rfl), (Nat.le_of_ble_eq_true rfl)⟩) (w_recv hK hP (k := 5 + k1) (by omega) (lyCs (k := k1) (by omega)) (q := (RX4, TX4, 9)) rfl) rfl hl.1 rfl (Nat.le_of_ble_eq_true rfl) dX3_enter_19 ⟨(Nat.le_of_ble_eq_true rfl), (Nat.le_of_ble_eq_true rfl)⟩ (fun r u H locs hw hP hS _ _ => ?_)
  obtain ⟨hw, hu⟩ := hw
  rw [hu] at hP
  have hv := bnd_name hv hw
  obtain ⟨r_3, er_3⟩ : ∃ z, z = r := ⟨_, rfl⟩
  rw [← er_3] at hv hw
  refine w_eql er_3.symm ?_
  have gr_3 := hw
  refine kVv hx hb hml hown hts hK hP hS hA (As := [.int p0, .long r_3]) (rest := []) (c_X2_put l dC dI cA ad hI M_2 (1) (by omega) p0 r_3 ) (mkV hts q_327 q_51 q_324 q_325 q_326 hyX2_put rfl rfl ⟨(Nat.le_of_ble_eq_true rfl), (Nat.le_of_ble_eq_true rfl)⟩) (w_recv hK hP (k := 13 + 1) (by omega) (lyCr (k := 1) (by omega)) (q := (RX2, TX2, 1)) rfl) rfl hl.1 rfl (Nat.le_of_ble_eq_true rfl) dX3_enter_22 ⟨(Nat.le_of_ble_eq_true rfl), (Nat.le_of_ble_eq_true rfl)⟩ (fun u H locs hw hP hS _ _ => ?_)
  obtain ⟨M_4, eM_4⟩ : ∃ z, z = u := ⟨_, rfl⟩
  rw [← eM_4] at hP hw
  have gM_4 := hw
  have hv := bnd_name hv hw
  refine lv_aload_n hx hb dX3_enter_25 rfl (lv_at hl 0 rfl) ?_
  refine fg_X3_21 hx hb hts hK hP hown dX3_enter_26 ?_
  refine lv_iload_n hx hb dX3_enter_29 rfl (lv_at hl 1 rfl) ?_
  refine lv_aload_n hx hb dX3_enter_30 rfl (lv_at hl 2 rfl) ?_
  refine kVl hx hb hml hown hts hK hP hS hA (As := []) (rest := [.int p0, .ref (ad (13 + 2))]) (c_X4_offsetJitter l dC dI cA ad hI M_4 (k1) (by omega)  ) (mkV hts q_340 q_52 q_347 q_338 q_339 hyX4_offsetJitter rfl rfl ⟨(Nat.le_of_ble_eq_true rfl), (Nat.le_of_ble_eq_true rfl)⟩) (w_recv hK hP (k := 5 + k1) (by omega) (lyCs (k := k1) (by omega)) (q := (RX4, TX4, 9)) rfl) rfl hl.1 rfl (Nat.le_of_ble_eq_true rfl) dX3_enter_31 ⟨(Nat.le_of_ble_eq_true rfl), (Nat.le_of_ble_eq_true rfl)⟩ (fun r u H locs hw hP hS _ _ => ?_)
  obtain ⟨hw, hu⟩ := hw
  rw [hu] at hP
  have hv := bnd_name hv hw
  obtain ⟨r_5, er_5⟩ : ∃ z, z = r := ⟨_, rfl⟩
  rw [← er_5] at hv hw
  refine w_eql er_5.symm ?_
  have gr_5 := hw
  refine kVv hx hb hml hown hts hK hP hS hA (As := [.int p0, .long r_5]) (rest := []) (c_X2_put l dC dI cA ad hI M_4 (2) (by omega) p0 r_5 ) (mkV hts q_327 q_51 q_324 q_325 q_326 hyX2_put rfl rfl ⟨(Nat.le_of_ble_eq_true rfl), (Nat.le_of_ble_eq_true rfl)⟩) (w_recv hK hP (k := 13 + 2) (by omega) (lyCr (k := 2) (by omega)) (q := (RX2, TX2, 1)) rfl) rfl hl.1 rfl (Nat.le_of_ble_eq_true rfl) dX3_enter_34 ⟨(Nat.le_of_ble_eq_true rfl), (Nat.le_of_ble_eq_true rfl)⟩ (fun u H locs hw hP hS _ _ => ?_)
  obtain ⟨M_6, eM_6⟩ : ∃ z, z = u := ⟨_, rfl⟩
  rw [← eM_6] at hP hw
  have gM_6 := hw
  have hv := bnd_name hv hw
  refine lv_aload_n hx hb dX3_enter_37 rfl (lv_at hl 0 rfl) ?_
  refine fg_X3_24 hx hb hts hK hP hown dX3_enter_38 ?_
  refine lv_iload_n hx hb dX3_enter_41 rfl (lv_at hl 1 rfl) ?_
  refine lv_aload_n hx hb dX3_enter_42 rfl (lv_at hl 2 rfl) ?_
  refine kVi hx hb hml hown hts hK hP hS hA (As := []) (rest := [.int p0, .ref (ad (13 + 3))]) (c_X4_ownStratum l dC dI cA ad hI M_6 (k1) (by omega)  ) (mkV hts q_351 q_52 q_348 q_349 q_350 hyX4_ownStratum rfl rfl ⟨(Nat.le_of_ble_eq_true rfl), (Nat.le_of_ble_eq_true rfl)⟩) (w_recv hK hP (k := 5 + k1) (by omega) (lyCs (k := k1) (by omega)) (q := (RX4, TX4, 9)) rfl) rfl hl.1 rfl (Nat.le_of_ble_eq_true rfl) dX3_enter_43 ⟨(Nat.le_of_ble_eq_true rfl), (Nat.le_of_ble_eq_true rfl)⟩ (fun r u H locs hw hP hS _ _ => ?_)
  obtain ⟨hw, hu⟩ := hw
  rw [hu] at hP
  have hv := bnd_name hv hw
  obtain ⟨r_7, er_7⟩ : ∃ z, z = r := ⟨_, rfl⟩
  rw [← er_7] at hv hw
  refine w_eqi er_7.symm ?_
  have gr_7 := hw
  refine lv_i2l (v := (r_7).toInt64) hx hb dX3_enter_46 rfl ?_
  refine kVv hx hb hml hown hts hK hP hS hA (As := [.int p0, .long ((r_7).toInt64)]) (rest := []) (c_X2_put l dC dI cA ad hI M_6 (3) (by omega) p0 ((r_7).toInt64) ) (mkV hts q_327 q_51 q_324 q_325 q_326 hyX2_put rfl rfl ⟨(Nat.le_of_ble_eq_true rfl), (Nat.le_of_ble_eq_true rfl)⟩) (w_recv hK hP (k := 13 + 3) (by omega) (lyCr (k := 3) (by omega)) (q := (RX2, TX2, 1)) rfl) rfl hl.1 rfl (Nat.le_of_ble_eq_true rfl) dX3_enter_47 ⟨(Nat.le_of_ble_eq_true rfl), (Nat.le_of_ble_eq_true rfl)⟩ (fun u H locs hw hP hS _ _ => ?_)
  obtain ⟨M_8, eM_8⟩ : ∃ z, z = u := ⟨_, rfl⟩
  rw [← eM_8] at hP hw
  have gM_8 := hw
  have hv := bnd_name hv hw
  refine lv_aload_n hx hb dX3_enter_50 rfl (lv_at hl 0 rfl) ?_
  refine lv_dup hx hb dX3_enter_51 rfl ?_
  refine fg_X3_27 hx hb hts hK hP hown dX3_enter_52 ?_
  refine lv_iconst (v := 1) hx hb dX3_enter_55 (by decide) ?_
  refine lv_iload_n hx hb dX3_enter_56 rfl (lv_at hl 1 rfl) ?_
  refine lv_ishl hx hb dX3_enter_57 ?_
  refine lv_ior hx hb dX3_enter_58 ?_
  refine fp_X3_27 hx hb hts hK hP hI hS hA hown dX3_enter_59 (fun H locs hP hS => ?_)
  obtain ⟨M_9, eM_9⟩ : ∃ z : Mem, z = sI M_8 (8) (gI M_8 (8) ||| ((1 : Int32) <<< (p0 &&& 31))) := ⟨_, rfl⟩
  rw [← eM_9] at hP
  have hv := bnd_name hv eM_9
  exact W.vret hx hb hr (fun t ht hW => ⟨⟨M_9, rfl, hv.symm.trans eV, by rw [ht]; exact hP, va_K.moved hW.alike hK⟩, hS.F ht⟩) hS.2.2 dX3_enter_62
def f_X3_isEmpty (M : Mem)  : Int32 := if gI M (8) = (0 : Int32) then (1 : Int32) else (0 : Int32)
theorem hyX3_isEmpty : yX3_isEmpty.cls ≠ "java/lang/invoke/MethodHandle" ∧ yX3_isEmpty.cls ≠ "java/lang/invoke/VarHandle" ∧ (parseMethodDescriptor yX3_isEmpty.desc).map (fun d => d.parameters.length) = some 0 := by decide +kernel
set_option maxHeartbeats 4000000 in
set_option maxRecDepth 100000 in
theorem c_X3_isEmpty (l : Launch) (dC : Nat → ClassId) (dI : Nat → Nat → Nat) (cA : Nat → ClassId) (ad : Nat → Nat) (hI : Inj 69 ad) (M : Mem)   : Met l yX3_isEmpty (.code yX3_isEmpty cX3_isEmpty 1 (some .boolean) :: AG) ({ frames := 0, cells := 0, slots := 0, locals := 0 } : Room) (va_Pc [.ref (ad (4))] (PC dC dI cA ad M)) (va_Qi (fun r u => r = f_X3_isEmpty M  ∧ u = M) (PC dC dI cA ad) (adS 69 ad)) 0 0 (adS 69 ad) := by
  refine cMet (by decide) (Nat.le_of_ble_eq_true rfl) ?_
  intro p e s m below meth c ls hx hb hr hml hlocks hown hts hK hP hS hl
  have hA : ∀ q, adS 69 ad q → adS 69 ad q := fun _ h => h
  have hl : lv_has ls 1 [(0, .ref (ad (4)))] := hl
  obtain ⟨V, eV⟩ : ∃ z, z = f_X3_isEmpty M  := ⟨_, rfl⟩
  have hv := eV
  unfold f_X3_isEmpty at hv
  refine lv_aload_n hx hb dX3_isEmpty_0 rfl (lv_at hl 0 rfl) ?_
  refine fg_X3_27 hx hb hts hK hP hown dX3_isEmpty_1 ?_
  refine j0_ne (tgt := 11) hx hb dX3_isEmpty_4 (by decide) (fun c_1 => ?_) (fun c_1 => ?_)
  · have hv := hv.trans (if_pos c_1)
    refine lv_iconst (v := 1) hx hb dX3_isEmpty_7 (by decide) ?_
    refine lv_goto (tgt := 12) hx hb dX3_isEmpty_8 (by decide) ?_
    exact W.zret (v := (1 : Int32)) hx hb hr rfl (fun t ht hW => ⟨⟨_, M, rfl, ⟨hv.symm.trans eV, rfl⟩, by rw [ht]; exact hP, va_K.moved hW.alike hK⟩, hS.F ht⟩) hS.2.2 dX3_isEmpty_12
  · have hv := hv.trans (if_neg c_1)
    refine lv_iconst (v := 0) hx hb dX3_isEmpty_11 (by decide) ?_
    exact W.zret (v := (0 : Int32)) hx hb hr rfl (fun t ht hW => ⟨⟨_, M, rfl, ⟨hv.symm.trans eV, rfl⟩, by rw [ht]; exact hP, va_K.moved hW.alike hK⟩, hS.F ht⟩) hS.2.2 dX3_isEmpty_12
theorem f_X3_isEmpty_b (M : Mem)  : (f_X3_isEmpty M ) = 0 ∨ (f_X3_isEmpty M ) = 1 := by
  unfold f_X3_isEmpty
  repeat' (first | with_reducible refine bnd_or (fun _ => ?_) | with_reducible refine bnd2_or (fun _ _ => ?_) | with_reducible refine ite_or ?_ ?_ | exact Or.inl rfl | exact Or.inr rfl)
def f_X3_agreed (M : Mem)  : Int32 := bnd ((f_J6_bitCount_0f7a4 (gI M (9)))) fun x_1 => x_1
theorem hyX3_agreed : yX3_agreed.cls ≠ "java/lang/invoke/MethodHandle" ∧ yX3_agreed.cls ≠ "java/lang/invoke/VarHandle" ∧ (parseMethodDescriptor yX3_agreed.desc).map (fun d => d.parameters.length) = some 0 := by decide +kernel
set_option maxHeartbeats 4000000 in
set_option maxRecDepth 100000 in
theorem c_X3_agreed (l : Launch) (dC : Nat → ClassId) (dI : Nat → Nat → Nat) (cA : Nat → ClassId) (ad : Nat → Nat) (hI : Inj 69 ad) (M : Mem)   : Met l yX3_agreed (.code yX3_agreed cX3_agreed 1 (some .int) :: AG) ({ frames := 1, cells := 0, slots := 0, locals := 20 } : Room) (va_Pc [.ref (ad (4))] (PC dC dI cA ad M)) (va_Qi (fun r u => r = f_X3_agreed M  ∧ u = M) (PC dC dI cA ad) (adS 69 ad)) 0 0 (adS 69 ad) := by
  refine cMet (by decide) (Nat.le_of_ble_eq_true rfl) ?_
  intro p e s m below meth c ls hx hb hr hml hlocks hown hts hK hP hS hl
  have hA : ∀ q, adS 69 ad q → adS 69 ad q := fun _ h => h
  have hl : lv_has ls 1 [(0, .ref (ad (4)))] := hl
  obtain ⟨V, eV⟩ : ∃ z, z = f_X3_agreed M  := ⟨_, rfl⟩
  have hv := eV
  unfold f_X3_agreed at hv
  refine lv_aload_n hx hb dX3_agreed_0 rfl (lv_at hl 0 rfl) ?_
  refine fg_X3_31 hx hb hts hK hP hown dX3_agreed_1 ?_
  refine kSi hx hb hml hown hts (As := [.int (gI M (9))]) (rest := []) (c_J6_bitCount_0f7a4 l (gI M (9)) ) (mkS hts q_371 q_61 q_369 q_370 hyJ6_bitCount_0f7a4 rfl rfl ⟨(Nat.le_of_ble_eq_true rfl), (Nat.le_of_ble_eq_true rfl)⟩) rfl hl.1 rfl (Nat.le_of_ble_eq_true rfl) dX3_agreed_4 ⟨(Nat.le_of_ble_eq_true rfl), (Nat.le_of_ble_eq_true rfl)⟩ ?_
  refine lv_topi (fun x_1 ex_1 => ?_)
  have hv := bnd_name hv ex_1
  exact W.iret (v := x_1) hx hb hr (fun t ht hW => ⟨⟨_, M, rfl, ⟨hv.symm.trans eV, rfl⟩, by rw [ht]; exact hP, va_K.moved hW.alike hK⟩, hS.F ht⟩) hS.2.2 dX3_agreed_7
def f_X3_isMajority (M : Mem)  : Int32 := bnd (f_X3_agreed M  ) fun r_1 => bnd ((f_J6_bitCount_0f7a4 (gI M (8)))) fun x_2 => if x_2 < ((2 : Int32) * r_1) then (1 : Int32) else (0 : Int32)
theorem hyX3_isMajority : yX3_isMajority.cls ≠ "java/lang/invoke/MethodHandle" ∧ yX3_isMajority.cls ≠ "java/lang/invoke/VarHandle" ∧ (parseMethodDescriptor yX3_isMajority.desc).map (fun d => d.parameters.length) = some 0 := by decide +kernel
set_option maxHeartbeats 4000000 in
set_option maxRecDepth 100000 in
theorem c_X3_isMajority (l : Launch) (dC : Nat → ClassId) (dI : Nat → Nat → Nat) (cA : Nat → ClassId) (ad : Nat → Nat) (hI : Inj 69 ad) (M : Mem)   : Met l yX3_isMajority (.code yX3_isMajority cX3_isMajority 1 (some .boolean) :: AG) ({ frames := 2, cells := 0, slots := 0, locals := 40 } : Room) (va_Pc [.ref (ad (4))] (PC dC dI cA ad M)) (va_Qi (fun r u => r = f_X3_isMajority M  ∧ u = M) (PC dC dI cA ad) (adS 69 ad)) 0 0 (adS 69 ad) := by
  refine cMet (by decide) (Nat.le_of_ble_eq_true rfl) ?_
  intro p e s m below meth c ls hx hb hr hml hlocks hown hts hK hP hS hl
  have hA : ∀ q, adS 69 ad q → adS 69 ad q := fun _ h => h
  have hl : lv_has ls 1 [(0, .ref (ad (4)))] := hl
  obtain ⟨V, eV⟩ : ∃ z, z = f_X3_isMajority M  := ⟨_, rfl⟩
  have hv := eV
  unfold f_X3_isMajority at hv
  refine lv_iconst (v := 2) hx hb dX3_isMajority_0 (by decide) ?_
  refine lv_aload_n hx hb dX3_isMajority_1 rfl (lv_at hl 0 rfl) ?_
  refine kVi hx hb hml hown hts hK hP hS hA (As := []) (rest := [.int (2 : Int32)]) (c_X3_agreed l dC dI cA ad hI M   ) (mkV hts q_398 q_50 q_407 q_396 q_397 hyX3_agreed rfl rfl ⟨(Nat.le_of_ble_eq_true rfl), (Nat.le_of_ble_eq_true rfl)⟩) (w_recv hK hP (k := 4) (by decide) lyC4 (q := (RX3, TX3, 9)) rfl) rfl hl.1 rfl (Nat.le_of_ble_eq_true rfl) dX3_isMajority_2 ⟨(Nat.le_of_ble_eq_true rfl), (Nat.le_of_ble_eq_true rfl)⟩ (fun r u H locs hw hP hS _ _ => ?_)
  obtain ⟨hw, hu⟩ := hw
  rw [hu] at hP
  have hv := bnd_name hv hw
  obtain ⟨r_1, er_1⟩ : ∃ z, z = r := ⟨_, rfl⟩
  rw [← er_1] at hv hw
  refine w_eqi er_1.symm ?_
  have gr_1 := hw
  refine lv_imul hx hb dX3_isMajority_5 ?_
  refine lv_aload_n hx hb dX3_isMajority_6 rfl (lv_at hl 0 rfl) ?_
  refine fg_X3_27 hx hb hts hK hP hown dX3_isMajority_7 ?_
  refine kSi hx hb hml hown hts (As := [.int (gI M (8))]) (rest := [.int ((2 : Int32) * r_1)]) (c_J6_bitCount_0f7a4 l (gI M (8)) ) (mkS hts q_371 q_61 q_369 q_370 hyJ6_bitCount_0f7a4 rfl rfl ⟨(Nat.le_of_ble_eq_true rfl), (Nat.le_of_ble_eq_true rfl)⟩) rfl hl.1 rfl (Nat.le_of_ble_eq_true rfl) dX3_isMajority_10 ⟨(Nat.le_of_ble_eq_true rfl), (Nat.le_of_ble_eq_true rfl)⟩ ?_
  refine lv_topi (fun x_2 ex_2 => ?_)
  have hv := bnd_name hv ex_2
  refine jI_le (tgt := 20) hx hb dX3_isMajority_13 (by decide) (fun c_3 => ?_) (fun c_3 => ?_)
  · have hv := hv.trans (if_pos c_3)
    refine lv_iconst (v := 1) hx hb dX3_isMajority_16 (by decide) ?_
    refine lv_goto (tgt := 21) hx hb dX3_isMajority_17 (by decide) ?_
    exact W.zret (v := (1 : Int32)) hx hb hr rfl (fun t ht hW => ⟨⟨_, M, rfl, ⟨hv.symm.trans eV, rfl⟩, by rw [ht]; exact hP, va_K.moved hW.alike hK⟩, hS.F ht⟩) hS.2.2 dX3_isMajority_21
  · have hv := hv.trans (if_neg c_3)
    refine lv_iconst (v := 0) hx hb dX3_isMajority_20 (by decide) ?_
    exact W.zret (v := (0 : Int32)) hx hb hr rfl (fun t ht hW => ⟨⟨_, M, rfl, ⟨hv.symm.trans eV, rfl⟩, by rw [ht]; exact hP, va_K.moved hW.alike hK⟩, hS.F ht⟩) hS.2.2 dX3_isMajority_21
theorem f_X3_isMajority_b (M : Mem)  : (f_X3_isMajority M ) = 0 ∨ (f_X3_isMajority M ) = 1 := by
  unfold f_X3_isMajority
  repeat' (first | with_reducible refine bnd_or (fun _ => ?_) | with_reducible refine bnd2_or (fun _ _ => ?_) | with_reducible refine ite_or ?_ ?_ | exact Or.inl rfl | exact Or.inr rfl)
def f_X3_agreeingBits (M : Mem)  : Int32 := gI M (9)
theorem hyX3_agreeingBits : yX3_agreeingBits.cls ≠ "java/lang/invoke/MethodHandle" ∧ yX3_agreeingBits.cls ≠ "java/lang/invoke/VarHandle" ∧ (parseMethodDescriptor yX3_agreeingBits.desc).map (fun d => d.parameters.length) = some 0 := by decide +kernel
set_option maxHeartbeats 4000000 in
set_option maxRecDepth 100000 in
theorem c_X3_agreeingBits (l : Launch) (dC : Nat → ClassId) (dI : Nat → Nat → Nat) (cA : Nat → ClassId) (ad : Nat → Nat) (hI : Inj 69 ad) (M : Mem)   : Met l yX3_agreeingBits (.code yX3_agreeingBits cX3_agreeingBits 1 (some .int) :: AG) ({ frames := 0, cells := 0, slots := 0, locals := 0 } : Room) (va_Pc [.ref (ad (4))] (PC dC dI cA ad M)) (va_Qi (fun r u => r = f_X3_agreeingBits M  ∧ u = M) (PC dC dI cA ad) (adS 69 ad)) 0 0 (adS 69 ad) := by
  refine cMet (by decide) (Nat.le_of_ble_eq_true rfl) ?_
  intro p e s m below meth c ls hx hb hr hml hlocks hown hts hK hP hS hl
  have hA : ∀ q, adS 69 ad q → adS 69 ad q := fun _ h => h
  have hl : lv_has ls 1 [(0, .ref (ad (4)))] := hl
  obtain ⟨V, eV⟩ : ∃ z, z = f_X3_agreeingBits M  := ⟨_, rfl⟩
  have hv := eV
  unfold f_X3_agreeingBits at hv
  refine lv_aload_n hx hb dX3_agreeingBits_0 rfl (lv_at hl 0 rfl) ?_
  refine fg_X3_31 hx hb hts hK hP hown dX3_agreeingBits_1 ?_
  exact W.iret (v := gI M (9)) hx hb hr (fun t ht hW => ⟨⟨_, M, rfl, ⟨hv.symm.trans eV, rfl⟩, by rw [ht]; exact hP, va_K.moved hW.alike hK⟩, hS.F ht⟩) hS.2.2 dX3_agreeingBits_4
def f_X3_survivorBits (M : Mem)  : Int32 := gI M (10)
theorem hyX3_survivorBits : yX3_survivorBits.cls ≠ "java/lang/invoke/MethodHandle" ∧ yX3_survivorBits.cls ≠ "java/lang/invoke/VarHandle" ∧ (parseMethodDescriptor yX3_survivorBits.desc).map (fun d => d.parameters.length) = some 0 := by decide +kernel
set_option maxHeartbeats 4000000 in
set_option maxRecDepth 100000 in
theorem c_X3_survivorBits (l : Launch) (dC : Nat → ClassId) (dI : Nat → Nat → Nat) (cA : Nat → ClassId) (ad : Nat → Nat) (hI : Inj 69 ad) (M : Mem)   : Met l yX3_survivorBits (.code yX3_survivorBits cX3_survivorBits 1 (some .int) :: AG) ({ frames := 0, cells := 0, slots := 0, locals := 0 } : Room) (va_Pc [.ref (ad (4))] (PC dC dI cA ad M)) (va_Qi (fun r u => r = f_X3_survivorBits M  ∧ u = M) (PC dC dI cA ad) (adS 69 ad)) 0 0 (adS 69 ad) := by
  refine cMet (by decide) (Nat.le_of_ble_eq_true rfl) ?_
  intro p e s m below meth c ls hx hb hr hml hlocks hown hts hK hP hS hl
  have hA : ∀ q, adS 69 ad q → adS 69 ad q := fun _ h => h
  have hl : lv_has ls 1 [(0, .ref (ad (4)))] := hl
  obtain ⟨V, eV⟩ : ∃ z, z = f_X3_survivorBits M  := ⟨_, rfl⟩
  have hv := eV
  unfold f_X3_survivorBits at hv
  refine lv_aload_n hx hb dX3_survivorBits_0 rfl (lv_at hl 0 rfl) ?_
  refine fg_X3_34 hx hb hts hK hP hown dX3_survivorBits_1 ?_
  exact W.iret (v := gI M (10)) hx hb hr (fun t ht hW => ⟨⟨_, M, rfl, ⟨hv.symm.trans eV, rfl⟩, by rw [ht]; exact hP, va_K.moved hW.alike hK⟩, hS.F ht⟩) hS.2.2 dX3_survivorBits_4
def f_X3_lowEnd (M : Mem)  : Int64 := gL M (4)
theorem hyX3_lowEnd : yX3_lowEnd.cls ≠ "java/lang/invoke/MethodHandle" ∧ yX3_lowEnd.cls ≠ "java/lang/invoke/VarHandle" ∧ (parseMethodDescriptor yX3_lowEnd.desc).map (fun d => d.parameters.length) = some 0 := by decide +kernel
set_option maxHeartbeats 4000000 in
set_option maxRecDepth 100000 in
theorem c_X3_lowEnd (l : Launch) (dC : Nat → ClassId) (dI : Nat → Nat → Nat) (cA : Nat → ClassId) (ad : Nat → Nat) (hI : Inj 69 ad) (M : Mem)   : Met l yX3_lowEnd (.code yX3_lowEnd cX3_lowEnd 1 (some .long) :: AG) ({ frames := 0, cells := 0, slots := 0, locals := 0 } : Room) (va_Pc [.ref (ad (4))] (PC dC dI cA ad M)) (va_Ql (fun r u => r = f_X3_lowEnd M  ∧ u = M) (PC dC dI cA ad) (adS 69 ad)) 0 0 (adS 69 ad) := by
  refine cMet (by decide) (Nat.le_of_ble_eq_true rfl) ?_
  intro p e s m below meth c ls hx hb hr hml hlocks hown hts hK hP hS hl
  have hA : ∀ q, adS 69 ad q → adS 69 ad q := fun _ h => h
  have hl : lv_has ls 1 [(0, .ref (ad (4)))] := hl
  obtain ⟨V, eV⟩ : ∃ z, z = f_X3_lowEnd M  := ⟨_, rfl⟩
  have hv := eV
  unfold f_X3_lowEnd at hv
  refine lv_aload_n hx hb dX3_lowEnd_0 rfl (lv_at hl 0 rfl) ?_
  refine fg_X3_37 hx hb hts hK hP hown dX3_lowEnd_1 ?_
  exact W.lret (v := gL M (4)) hx hb hr (fun t ht hW => ⟨⟨_, M, rfl, ⟨hv.symm.trans eV, rfl⟩, by rw [ht]; exact hP, va_K.moved hW.alike hK⟩, hS.F ht⟩) hS.2.2 dX3_lowEnd_4
def f_X3_highEnd (M : Mem)  : Int64 := gL M (5)
theorem hyX3_highEnd : yX3_highEnd.cls ≠ "java/lang/invoke/MethodHandle" ∧ yX3_highEnd.cls ≠ "java/lang/invoke/VarHandle" ∧ (parseMethodDescriptor yX3_highEnd.desc).map (fun d => d.parameters.length) = some 0 := by decide +kernel
set_option maxHeartbeats 4000000 in
set_option maxRecDepth 100000 in
theorem c_X3_highEnd (l : Launch) (dC : Nat → ClassId) (dI : Nat → Nat → Nat) (cA : Nat → ClassId) (ad : Nat → Nat) (hI : Inj 69 ad) (M : Mem)   : Met l yX3_highEnd (.code yX3_highEnd cX3_highEnd 1 (some .long) :: AG) ({ frames := 0, cells := 0, slots := 0, locals := 0 } : Room) (va_Pc [.ref (ad (4))] (PC dC dI cA ad M)) (va_Ql (fun r u => r = f_X3_highEnd M  ∧ u = M) (PC dC dI cA ad) (adS 69 ad)) 0 0 (adS 69 ad) := by
  refine cMet (by decide) (Nat.le_of_ble_eq_true rfl) ?_
  intro p e s m below meth c ls hx hb hr hml hlocks hown hts hK hP hS hl
  have hA : ∀ q, adS 69 ad q → adS 69 ad q := fun _ h => h
  have hl : lv_has ls 1 [(0, .ref (ad (4)))] := hl
  obtain ⟨V, eV⟩ : ∃ z, z = f_X3_highEnd M  := ⟨_, rfl⟩
  have hv := eV
  unfold f_X3_highEnd at hv
  refine lv_aload_n hx hb dX3_highEnd_0 rfl (lv_at hl 0 rfl) ?_
  refine fg_X3_41 hx hb hts hK hP hown dX3_highEnd_1 ?_
  exact W.lret (v := gL M (5)) hx hb hr (fun t ht hW => ⟨⟨_, M, rfl, ⟨hv.symm.trans eV, rfl⟩, by rw [ht]; exact hP, va_K.moved hW.alike hK⟩, hS.F ht⟩) hS.2.2 dX3_highEnd_4
def f_X3_intervalsWith_L5 (M : Mem) (p0 : Int64) : Nat → Nat → Int32 → Int32
  | 0, _, _ => 0
  | r + 1, i, y3_5 => if nI i < (8 : Int32) then bnd ((f_X3_contains (gI M (8)) (nI i))) fun x_2 => if x_2 = (0 : Int32) then f_X3_intervalsWith_L5 M p0 r (i + 1) y3_5 else bnd (f_X2_get M (0) (nI i)) fun r_4 => bnd ((if 0 < (p0 - r_4) then (p0 - r_4) else -(p0 - r_4))) fun x_5 => bnd (f_X2_get M (1) (nI i)) fun r_6 => if r_6 < x_5 then f_X3_intervalsWith_L5 M p0 r (i + 1) y3_5 else bnd ((y3_5 ||| ((1 : Int32) <<< (nI i &&& 31)))) fun x_8 => f_X3_intervalsWith_L5 M p0 r (i + 1) x_8 else y3_5
def f_X3_intervalsWith (M : Mem) (p0 : Int64) : Int32 := f_X3_intervalsWith_L5 M p0 (8 + 1 - 0) 0 (0 : Int32)
theorem hyX3_intervalsWith : yX3_intervalsWith.cls ≠ "java/lang/invoke/MethodHandle" ∧ yX3_intervalsWith.cls ≠ "java/lang/invoke/VarHandle" ∧ (parseMethodDescriptor yX3_intervalsWith.desc).map (fun d => d.parameters.length) = some 1 := by decide +kernel
set_option maxHeartbeats 4000000 in
set_option maxRecDepth 100000 in
theorem c_X3_intervalsWith (l : Launch) (dC : Nat → ClassId) (dI : Nat → Nat → Nat) (cA : Nat → ClassId) (ad : Nat → Nat) (hI : Inj 69 ad) (M : Mem) (p0 : Int64)  : Met l yX3_intervalsWith (.code yX3_intervalsWith cX3_intervalsWith 5 (some .int) :: AG) ({ frames := 1, cells := 0, slots := 0, locals := 23 } : Room) (va_Pc [.ref (ad (4)), .long p0] (PC dC dI cA ad M)) (va_Qi (fun r u => r = f_X3_intervalsWith M p0 ∧ u = M) (PC dC dI cA ad) (adS 69 ad)) 0 0 (adS 69 ad) := by
  refine cMet (by decide) (Nat.le_of_ble_eq_true rfl) ?_
  intro p e s m below meth c ls hx hb hr hml hlocks hown hts hK hP hS hl
  have hA : ∀ q, adS 69 ad q → adS 69 ad q := fun _ h => h
  have hl : lv_has ls 5 [(0, .ref (ad (4))), (1, .long p0)] := hl
  obtain ⟨V, eV⟩ : ∃ z, z = f_X3_intervalsWith M p0 := ⟨_, rfl⟩
  have hv := eV
  unfold f_X3_intervalsWith at hv
  refine lv_iconst (v := 0) hx hb dX3_intervalsWith_0 (by decide) ?_
  refine lv_istore_n (lv' := [(3, .int (0 : Int32)), (0, .ref (ad (4))), (1, .long p0)]) hx hb dX3_intervalsWith_1 rfl hl (by decide) rfl (fun ls hl => ?_)
  refine lv_iconst (v := 0) hx hb dX3_intervalsWith_2 (by decide) ?_
  refine lv_istore (lv' := [(4, .int (0 : Int32)), (3, .int (0 : Int32)), (0, .ref (ad (4))), (1, .long p0)]) hx hb dX3_intervalsWith_3 hl (by decide) rfl (fun ls hl => ?_)
  have L5 : ∀ (r i : Nat) (y3_5 : Int32) (H : Heap) (locs : List Loc) (ls : Array Slot), i + r = 8 + 1 → i ≤ 8 → V = f_X3_intervalsWith_L5 M p0 r i y3_5 → va_P (dC, dI) vwCl (wld 69 layC cA ad M) H → va_S (adS 69 ad) s.heap H locs → lv_has ls 5 [(4, .int (nI i)), (3, .int y3_5), (0, .ref (ad (4))), (1, .long p0)] → W p l e ({ frames := 1, cells := 0, slots := 0, locals := 23 } : Room) s m ([.ref (ad (4)), .long p0] : List Value).toArray below meth c H locs 0 0 (MQ below (va_Qi (fun r u => r = f_X3_intervalsWith M p0 ∧ u = M) (PC dC dI cA ad) (adS 69 ad)) ([.ref (ad (4)), .long p0] : List Value).toArray s 0 0 (adS 69 ad)) (F0 m 5 ls []) := by
    intro r
    induction r with
    | zero =>
      intro i y3_5 H locs ls hir hib
      omega
    | succ r ih =>
      intro i y3_5 H locs ls hir hib hv hP hS hl
      rw [f_X3_intervalsWith_L5] at hv
      refine lv_iload hx hb dX3_intervalsWith_5 (lv_at hl 0 rfl) ?_
      refine lv_bipush (v := 8) hx hb dX3_intervalsWith_7 (by decide) ?_
      refine jI_ge (tgt := 64) hx hb dX3_intervalsWith_9 (by decide) (fun c_1 => ?_) (fun c_1 => ?_)
      · have hv := hv.trans (if_pos c_1)
        have hc_1 : i < 8 := nI_lt8 (n := 8) c_1 (by omega) (by decide)
        refine lv_aload_n hx hb dX3_intervalsWith_12 rfl (lv_at hl 2 rfl) ?_
        refine fg_X3_27 hx hb hts hK hP hown dX3_intervalsWith_13 ?_
        refine lv_iload hx hb dX3_intervalsWith_16 (lv_at hl 0 rfl) ?_
        refine kSi hx hb hml hown hts (As := [.int (gI M (8)), .int (nI i)]) (rest := []) (c_X3_contains l (gI M (8)) (nI i) ) (mkS hts q_358 q_50 q_356 q_357 hyX3_contains rfl rfl ⟨(Nat.le_of_ble_eq_true rfl), (Nat.le_of_ble_eq_true rfl)⟩) rfl hl.1 rfl (Nat.le_of_ble_eq_true rfl) dX3_intervalsWith_18 ⟨(Nat.le_of_ble_eq_true rfl), (Nat.le_of_ble_eq_true rfl)⟩ ?_
        refine lv_topi (fun x_2 ex_2 => ?_)
        have hv := bnd_name hv ex_2
        have bx_2 : x_2 = 0 ∨ x_2 = 1 := by rw [ex_2]; exact f_X3_contains_b (gI M (8)) (nI i)
        refine j0_eq (tgt := 58) hx hb dX3_intervalsWith_21 (by decide) (fun c_3 => ?_) (fun c_3 => ?_)
        · have hv := hv.trans (if_pos c_3)
          refine lv_iinc (v := nI (i + 1)) (lv' := [(4, .int (nI (i + 1))), (3, .int y3_5), (0, .ref (ad (4))), (1, .long p0)]) hx hb dX3_intervalsWith_58 hl (k := 0) rfl (show nI (i) + 1 = nI (i + 1) from nI_1 _) (by decide) rfl (fun ls hl => ?_)
          refine lv_goto (tgt := 5) hx hb dX3_intervalsWith_61 (by decide) ?_
          exact ih (i + 1) y3_5 _ _ _ (by omega) (by omega)  hv hP hS (lv_sub hl [0, 1, 2, 3] rfl)
        · have hv := hv.trans (if_neg c_3)
          refine lv_lload_n hx hb dX3_intervalsWith_24 rfl (lv_at hl 3 rfl) ?_
          refine lv_aload_n hx hb dX3_intervalsWith_25 rfl (lv_at hl 2 rfl) ?_
          refine fg_X3_12 hx hb hts hK hP hown dX3_intervalsWith_26 ?_
          refine lv_iload hx hb dX3_intervalsWith_29 (lv_at hl 0 rfl) ?_
          refine kVl hx hb hml hown hts hK hP hS hA (As := [.int (nI i)]) (rest := [.long p0]) (c_X2_get l dC dI cA ad hI M (0) (by omega) (nI i) ) (mkV hts q_323 q_51 q_359 q_321 q_322 hyX2_get rfl rfl ⟨(Nat.le_of_ble_eq_true rfl), (Nat.le_of_ble_eq_true rfl)⟩) (w_recv hK hP (k := 13 + 0) (by omega) (lyCr (k := 0) (by omega)) (q := (RX2, TX2, 1)) rfl) rfl hl.1 rfl (Nat.le_of_ble_eq_true rfl) dX3_intervalsWith_31 ⟨(Nat.le_of_ble_eq_true rfl), (Nat.le_of_ble_eq_true rfl)⟩ (fun r u H locs hw hP hS _ _ => ?_)
          obtain ⟨hw, hu⟩ := hw
          rw [hu] at hP
          have hv := bnd_name hv hw
          obtain ⟨r_4, er_4⟩ : ∃ z, z = r := ⟨_, rfl⟩
          rw [← er_4] at hv hw
          refine w_eql er_4.symm ?_
          have gr_4 := hw
          refine lv_lsub hx hb dX3_intervalsWith_34 ?_
          refine va_mabs_long hx hb (hml.trans hl.1.symm) hown (hts _ q_368) (hts _ q_342) (hts _ q_59) (hts _ q_343) (Nat.le_of_ble_eq_true rfl) (Nat.le_of_ble_eq_true rfl) (Nat.le_of_ble_eq_true rfl) (Nat.le_of_ble_eq_true rfl) dX3_intervalsWith_35 ?_
          refine lv_topl (fun x_5 ex_5 => ?_)
          have hv := bnd_name hv ex_5
          refine lv_aload_n hx hb dX3_intervalsWith_38 rfl (lv_at hl 2 rfl) ?_
          refine fg_X3_18 hx hb hts hK hP hown dX3_intervalsWith_39 ?_
          refine lv_iload hx hb dX3_intervalsWith_42 (lv_at hl 0 rfl) ?_
          refine kVl hx hb hml hown hts hK hP hS hA (As := [.int (nI i)]) (rest := [.long x_5]) (c_X2_get l dC dI cA ad hI M (1) (by omega) (nI i) ) (mkV hts q_323 q_51 q_359 q_321 q_322 hyX2_get rfl rfl ⟨(Nat.le_of_ble_eq_true rfl), (Nat.le_of_ble_eq_true rfl)⟩) (w_recv hK hP (k := 13 + 1) (by omega) (lyCr (k := 1) (by omega)) (q := (RX2, TX2, 1)) rfl) rfl hl.1 rfl (Nat.le_of_ble_eq_true rfl) dX3_intervalsWith_44 ⟨(Nat.le_of_ble_eq_true rfl), (Nat.le_of_ble_eq_true rfl)⟩ (fun r u H locs hw hP hS _ _ => ?_)
          obtain ⟨hw, hu⟩ := hw
          rw [hu] at hP
          have hv := bnd_name hv hw
          obtain ⟨r_6, er_6⟩ : ∃ z, z = r := ⟨_, rfl⟩
          rw [← er_6] at hv hw
          refine w_eql er_6.symm ?_
          have gr_6 := hw
          refine jL_gt (tgt := 58) hx hb dX3_intervalsWith_47 dX3_intervalsWith_48 (by decide) (fun c_7 => ?_) (fun c_7 => ?_)
          · have hv := hv.trans (if_pos c_7)
            refine lv_iinc (v := nI (i + 1)) (lv' := [(4, .int (nI (i + 1))), (3, .int y3_5), (0, .ref (ad (4))), (1, .long p0)]) hx hb dX3_intervalsWith_58 hl (k := 0) rfl (show nI (i) + 1 = nI (i + 1) from nI_1 _) (by decide) rfl (fun ls hl => ?_)
            refine lv_goto (tgt := 5) hx hb dX3_intervalsWith_61 (by decide) ?_
            exact ih (i + 1) y3_5 _ _ _ (by omega) (by omega)  hv hP hS (lv_sub hl [0, 1, 2, 3] rfl)
          · have hv := hv.trans (if_neg c_7)
            refine lv_iload_n hx hb dX3_intervalsWith_51 rfl (lv_at hl 1 rfl) ?_
            refine lv_iconst (v := 1) hx hb dX3_intervalsWith_52 (by decide) ?_
            refine lv_iload hx hb dX3_intervalsWith_53 (lv_at hl 0 rfl) ?_
            refine lv_ishl hx hb dX3_intervalsWith_55 ?_
            refine lv_ior hx hb dX3_intervalsWith_56 ?_
            refine lv_topi (fun x_8 ex_8 => ?_)
            have hv := bnd_name hv ex_8
            refine lv_istore_n (lv' := [(3, .int x_8), (4, .int (nI i)), (0, .ref (ad (4))), (1, .long p0)]) hx hb dX3_intervalsWith_57 rfl hl (by decide) rfl (fun ls hl => ?_)
            refine lv_iinc (v := nI (i + 1)) (lv' := [(4, .int (nI (i + 1))), (3, .int x_8), (0, .ref (ad (4))), (1, .long p0)]) hx hb dX3_intervalsWith_58 hl (k := 1) rfl (show nI (i) + 1 = nI (i + 1) from nI_1 _) (by decide) rfl (fun ls hl => ?_)
            refine lv_goto (tgt := 5) hx hb dX3_intervalsWith_61 (by decide) ?_
            exact ih (i + 1) x_8 _ _ _ (by omega) (by omega)  hv hP hS (lv_sub hl [0, 1, 2, 3] rfl)
      · have hv := hv.trans (if_neg c_1)
        have hc_1 : ¬ i < 8 := fun h => c_1 (nI_lt h (by decide))
        refine lv_iload_n hx hb dX3_intervalsWith_64 rfl (lv_at hl 1 rfl) ?_
        exact W.iret (v := y3_5) hx hb hr (fun t ht hW => ⟨⟨_, M, rfl, ⟨hv.symm.trans eV, rfl⟩, by rw [ht]; exact hP, va_K.moved hW.alike hK⟩, hS.F ht⟩) hS.2.2 dX3_intervalsWith_65
  exact L5 (8 + 1 - 0) 0 (0 : Int32) _ _ _ (by omega) (by omega)  hv hP hS (lv_sub hl [0, 1, 2, 3] rfl)
def f_X3_tryLowEnd (M : Mem) (p0 : Int64) : Mem := bnd (f_X3_intervalsWith M  p0) fun r_1 => bnd ((f_J6_bitCount_0f7a4 r_1)) fun x_2 => bnd ((f_J6_bitCount_0f7a4 (gI M (9)))) fun x_3 => bnd ((x_2 - x_3)) fun x_4 => if (0 : Int32) < x_4 then bnd (sI M (9) r_1) fun M_6 => bnd (sL M_6 (4) p0) fun M_7 => M_7 else if x_4 = (0 : Int32) then if p0 < gL M (4) then bnd (sI M (9) r_1) fun M_10 => bnd (sL M_10 (4) p0) fun M_11 => M_11 else M else M
theorem hyX3_tryLowEnd : yX3_tryLowEnd.cls ≠ "java/lang/invoke/MethodHandle" ∧ yX3_tryLowEnd.cls ≠ "java/lang/invoke/VarHandle" ∧ (parseMethodDescriptor yX3_tryLowEnd.desc).map (fun d => d.parameters.length) = some 1 := by decide +kernel
set_option maxHeartbeats 4000000 in
set_option maxRecDepth 100000 in
theorem c_X3_tryLowEnd (l : Launch) (dC : Nat → ClassId) (dI : Nat → Nat → Nat) (cA : Nat → ClassId) (ad : Nat → Nat) (hI : Inj 69 ad) (M : Mem) (p0 : Int64)  : Met l yX3_tryLowEnd (.code yX3_tryLowEnd cX3_tryLowEnd 5 none :: AG) ({ frames := 2, cells := 0, slots := 0, locals := 47 } : Room) (va_Pc [.ref (ad (4)), .long p0] (PC dC dI cA ad M)) (va_Qv (fun u => u = f_X3_tryLowEnd M p0) (PC dC dI cA ad) (adS 69 ad)) 0 0 (adS 69 ad) := by
  refine cMet (by decide) (Nat.le_of_ble_eq_true rfl) ?_
  intro p e s m below meth c ls hx hb hr hml hlocks hown hts hK hP hS hl
  have hA : ∀ q, adS 69 ad q → adS 69 ad q := fun _ h => h
  have hl : lv_has ls 5 [(0, .ref (ad (4))), (1, .long p0)] := hl
  obtain ⟨V, eV⟩ : ∃ z, z = f_X3_tryLowEnd M p0 := ⟨_, rfl⟩
  have hv := eV
  unfold f_X3_tryLowEnd at hv
  refine lv_aload_n hx hb dX3_tryLowEnd_0 rfl (lv_at hl 0 rfl) ?_
  refine lv_lload_n hx hb dX3_tryLowEnd_1 rfl (lv_at hl 1 rfl) ?_
  refine kVi hx hb hml hown hts hK hP hS hA (As := [.long p0]) (rest := []) (c_X3_intervalsWith l dC dI cA ad hI M  p0 ) (mkV hts q_367 q_50 q_364 q_366 q_5 hyX3_intervalsWith rfl rfl ⟨(Nat.le_of_ble_eq_true rfl), (Nat.le_of_ble_eq_true rfl)⟩) (w_recv hK hP (k := 4) (by decide) lyC4 (q := (RX3, TX3, 9)) rfl) rfl hl.1 rfl (Nat.le_of_ble_eq_true rfl) dX3_tryLowEnd_2 ⟨(Nat.le_of_ble_eq_true rfl), (Nat.le_of_ble_eq_true rfl)⟩ (fun r u H locs hw hP hS _ _ => ?_)
  obtain ⟨hw, hu⟩ := hw
  rw [hu] at hP
  have hv := bnd_name hv hw
  obtain ⟨r_1, er_1⟩ : ∃ z, z = r := ⟨_, rfl⟩
  rw [← er_1] at hv hw
  refine w_eqi er_1.symm ?_
  have gr_1 := hw
  refine lv_istore_n (lv' := [(3, .int r_1), (0, .ref (ad (4))), (1, .long p0)]) hx hb dX3_tryLowEnd_5 rfl hl (by decide) rfl (fun ls hl => ?_)
  refine lv_iload_n hx hb dX3_tryLowEnd_6 rfl (lv_at hl 0 rfl) ?_
  refine kSi hx hb hml hown hts (As := [.int r_1]) (rest := []) (c_J6_bitCount_0f7a4 l r_1 ) (mkS hts q_371 q_61 q_369 q_370 hyJ6_bitCount_0f7a4 rfl rfl ⟨(Nat.le_of_ble_eq_true rfl), (Nat.le_of_ble_eq_true rfl)⟩) rfl hl.1 rfl (Nat.le_of_ble_eq_true rfl) dX3_tryLowEnd_7 ⟨(Nat.le_of_ble_eq_true rfl), (Nat.le_of_ble_eq_true rfl)⟩ ?_
  refine lv_topi (fun x_2 ex_2 => ?_)
  have hv := bnd_name hv ex_2
  refine lv_aload_n hx hb dX3_tryLowEnd_10 rfl (lv_at hl 1 rfl) ?_
  refine fg_X3_31 hx hb hts hK hP hown dX3_tryLowEnd_11 ?_
  refine kSi hx hb hml hown hts (As := [.int (gI M (9))]) (rest := [.int x_2]) (c_J6_bitCount_0f7a4 l (gI M (9)) ) (mkS hts q_371 q_61 q_369 q_370 hyJ6_bitCount_0f7a4 rfl rfl ⟨(Nat.le_of_ble_eq_true rfl), (Nat.le_of_ble_eq_true rfl)⟩) rfl hl.1 rfl (Nat.le_of_ble_eq_true rfl) dX3_tryLowEnd_14 ⟨(Nat.le_of_ble_eq_true rfl), (Nat.le_of_ble_eq_true rfl)⟩ ?_
  refine lv_topi (fun x_3 ex_3 => ?_)
  have hv := bnd_name hv ex_3
  refine lv_isub hx hb dX3_tryLowEnd_17 ?_
  refine lv_topi (fun x_4 ex_4 => ?_)
  have hv := bnd_name hv ex_4
  refine lv_istore (lv' := [(4, .int x_4), (3, .int r_1), (0, .ref (ad (4))), (1, .long p0)]) hx hb dX3_tryLowEnd_18 hl (by decide) rfl (fun ls hl => ?_)
  refine lv_iload hx hb dX3_tryLowEnd_20 (lv_at hl 0 rfl) ?_
  refine j0_gt (tgt := 39) hx hb dX3_tryLowEnd_22 (by decide) (fun c_5 => ?_) (fun c_5 => ?_)
  · have hv := hv.trans (if_pos c_5)
    refine lv_aload_n hx hb dX3_tryLowEnd_39 rfl (lv_at hl 2 rfl) ?_
    refine lv_iload_n hx hb dX3_tryLowEnd_40 rfl (lv_at hl 1 rfl) ?_
    refine fp_X3_31 hx hb hts hK hP hI hS hA hown dX3_tryLowEnd_41 (fun H locs hP hS => ?_)
    obtain ⟨M_6, eM_6⟩ : ∃ z : Mem, z = sI M (9) r_1 := ⟨_, rfl⟩
    rw [← eM_6] at hP
    have hv := bnd_name hv eM_6
    refine lv_aload_n hx hb dX3_tryLowEnd_44 rfl (lv_at hl 2 rfl) ?_
    refine lv_lload_n hx hb dX3_tryLowEnd_45 rfl (lv_at hl 3 rfl) ?_
    refine fp_X3_37 hx hb hts hK hP hI hS hA hown dX3_tryLowEnd_46 (fun H locs hP hS => ?_)
    obtain ⟨M_7, eM_7⟩ : ∃ z : Mem, z = sL M_6 (4) p0 := ⟨_, rfl⟩
    rw [← eM_7] at hP
    have hv := bnd_name hv eM_7
    exact W.vret hx hb hr (fun t ht hW => ⟨⟨M_7, rfl, hv.symm.trans eV, by rw [ht]; exact hP, va_K.moved hW.alike hK⟩, hS.F ht⟩) hS.2.2 dX3_tryLowEnd_49
  · have hv := hv.trans (if_neg c_5)
    refine lv_iload hx hb dX3_tryLowEnd_25 (lv_at hl 0 rfl) ?_
    refine j0_ne (tgt := 49) hx hb dX3_tryLowEnd_27 (by decide) (fun c_8 => ?_) (fun c_8 => ?_)
    · have hv := hv.trans (if_pos c_8)
      refine lv_lload_n hx hb dX3_tryLowEnd_30 rfl (lv_at hl 3 rfl) ?_
      refine lv_aload_n hx hb dX3_tryLowEnd_31 rfl (lv_at hl 2 rfl) ?_
      refine fg_X3_37 hx hb hts hK hP hown dX3_tryLowEnd_32 ?_
      refine jL_ge (tgt := 49) hx hb dX3_tryLowEnd_35 dX3_tryLowEnd_36 (by decide) (fun c_9 => ?_) (fun c_9 => ?_)
      · have hv := hv.trans (if_pos c_9)
        refine lv_aload_n hx hb dX3_tryLowEnd_39 rfl (lv_at hl 2 rfl) ?_
        refine lv_iload_n hx hb dX3_tryLowEnd_40 rfl (lv_at hl 1 rfl) ?_
        refine fp_X3_31 hx hb hts hK hP hI hS hA hown dX3_tryLowEnd_41 (fun H locs hP hS => ?_)
        obtain ⟨M_10, eM_10⟩ : ∃ z : Mem, z = sI M (9) r_1 := ⟨_, rfl⟩
        rw [← eM_10] at hP
        have hv := bnd_name hv eM_10
        refine lv_aload_n hx hb dX3_tryLowEnd_44 rfl (lv_at hl 2 rfl) ?_
        refine lv_lload_n hx hb dX3_tryLowEnd_45 rfl (lv_at hl 3 rfl) ?_
        refine fp_X3_37 hx hb hts hK hP hI hS hA hown dX3_tryLowEnd_46 (fun H locs hP hS => ?_)
        obtain ⟨M_11, eM_11⟩ : ∃ z : Mem, z = sL M_10 (4) p0 := ⟨_, rfl⟩
        rw [← eM_11] at hP
        have hv := bnd_name hv eM_11
        exact W.vret hx hb hr (fun t ht hW => ⟨⟨M_11, rfl, hv.symm.trans eV, by rw [ht]; exact hP, va_K.moved hW.alike hK⟩, hS.F ht⟩) hS.2.2 dX3_tryLowEnd_49
      · have hv := hv.trans (if_neg c_9)
        exact W.vret hx hb hr (fun t ht hW => ⟨⟨M, rfl, hv.symm.trans eV, by rw [ht]; exact hP, va_K.moved hW.alike hK⟩, hS.F ht⟩) hS.2.2 dX3_tryLowEnd_49
    · have hv := hv.trans (if_neg c_8)
      exact W.vret hx hb hr (fun t ht hW => ⟨⟨M, rfl, hv.symm.trans eV, by rw [ht]; exact hP, va_K.moved hW.alike hK⟩, hS.F ht⟩) hS.2.2 dX3_tryLowEnd_49
def f_X3_leastUpperEnd_L7 (M : Mem)  : Nat → Nat → Int32 → Int64 → Int64
  | 0, _, _, _ => 0
  | r + 1, i, y3_7, y1_7 => if nI i < (8 : Int32) then bnd (f_X2_get M (0) (nI i)) fun r_2 => bnd (f_X2_get M (1) (nI i)) fun r_3 => bnd ((r_2 + r_3)) fun x_4 => bnd ((f_X3_contains (gI M (9)) (nI i))) fun x_5 => if x_5 = (0 : Int32) then f_X3_leastUpperEnd_L7 M  r (i + 1) y3_7 y1_7 else if y3_7 = (0 : Int32) then f_X3_leastUpperEnd_L7 M  r (i + 1) (1 : Int32) x_4 else if x_4 < y1_7 then f_X3_leastUpperEnd_L7 M  r (i + 1) (1 : Int32) x_4 else f_X3_leastUpperEnd_L7 M  r (i + 1) y3_7 y1_7 else y1_7
def f_X3_leastUpperEnd (M : Mem)  : Int64 := f_X3_leastUpperEnd_L7 M  (8 + 1 - 0) 0 (0 : Int32) (0 : Int64)
theorem hyX3_leastUpperEnd : yX3_leastUpperEnd.cls ≠ "java/lang/invoke/MethodHandle" ∧ yX3_leastUpperEnd.cls ≠ "java/lang/invoke/VarHandle" ∧ (parseMethodDescriptor yX3_leastUpperEnd.desc).map (fun d => d.parameters.length) = some 0 := by decide +kernel
set_option maxHeartbeats 4000000 in
set_option maxRecDepth 100000 in
theorem c_X3_leastUpperEnd (l : Launch) (dC : Nat → ClassId) (dI : Nat → Nat → Nat) (cA : Nat → ClassId) (ad : Nat → Nat) (hI : Inj 69 ad) (M : Mem)   : Met l yX3_leastUpperEnd (.code yX3_leastUpperEnd cX3_leastUpperEnd 7 (some .long) :: AG) ({ frames := 1, cells := 0, slots := 0, locals := 21 } : Room) (va_Pc [.ref (ad (4))] (PC dC dI cA ad M)) (va_Ql (fun r u => r = f_X3_leastUpperEnd M  ∧ u = M) (PC dC dI cA ad) (adS 69 ad)) 0 0 (adS 69 ad) := by
  refine cMet (by decide) (Nat.le_of_ble_eq_true rfl) ?_
  intro p e s m below meth c ls hx hb hr hml hlocks hown hts hK hP hS hl
  have hA : ∀ q, adS 69 ad q → adS 69 ad q := fun _ h => h
  have hl : lv_has ls 7 [(0, .ref (ad (4)))] := hl
  obtain ⟨V, eV⟩ : ∃ z, z = f_X3_leastUpperEnd M  := ⟨_, rfl⟩
  have hv := eV
  unfold f_X3_leastUpperEnd at hv
  refine lv_lconst (v := 0) hx hb dX3_leastUpperEnd_0 (by decide) ?_
  refine lv_lstore_n (lv' := [(1, .long (0 : Int64)), (0, .ref (ad (4)))]) hx hb dX3_leastUpperEnd_1 rfl hl (by decide) rfl (fun ls hl => ?_)
  refine lv_iconst (v := 0) hx hb dX3_leastUpperEnd_2 (by decide) ?_
  refine lv_istore_n (lv' := [(3, .int (0 : Int32)), (1, .long (0 : Int64)), (0, .ref (ad (4)))]) hx hb dX3_leastUpperEnd_3 rfl hl (by decide) rfl (fun ls hl => ?_)
  refine lv_iconst (v := 0) hx hb dX3_leastUpperEnd_4 (by decide) ?_
  refine lv_istore (lv' := [(4, .int (0 : Int32)), (3, .int (0 : Int32)), (1, .long (0 : Int64)), (0, .ref (ad (4)))]) hx hb dX3_leastUpperEnd_5 hl (by decide) rfl (fun ls hl => ?_)
  have L7 : ∀ (r i : Nat) (y3_7 : Int32) (y1_7 : Int64) (H : Heap) (locs : List Loc) (ls : Array Slot), i + r = 8 + 1 → i ≤ 8 → V = f_X3_leastUpperEnd_L7 M  r i y3_7 y1_7 → va_P (dC, dI) vwCl (wld 69 layC cA ad M) H → va_S (adS 69 ad) s.heap H locs → lv_has ls 7 [(4, .int (nI i)), (3, .int y3_7), (1, .long y1_7), (0, .ref (ad (4)))] → W p l e ({ frames := 1, cells := 0, slots := 0, locals := 21 } : Room) s m ([.ref (ad (4))] : List Value).toArray below meth c H locs 0 0 (MQ below (va_Ql (fun r u => r = f_X3_leastUpperEnd M  ∧ u = M) (PC dC dI cA ad) (adS 69 ad)) ([.ref (ad (4))] : List Value).toArray s 0 0 (adS 69 ad)) (F0 m 7 ls []) := by
    intro r
    induction r with
    | zero =>
      intro i y3_7 y1_7 H locs ls hir hib
      omega
    | succ r ih =>
      intro i y3_7 y1_7 H locs ls hir hib hv hP hS hl
      rw [f_X3_leastUpperEnd_L7] at hv
      refine lv_iload hx hb dX3_leastUpperEnd_7 (lv_at hl 0 rfl) ?_
      refine lv_bipush (v := 8) hx hb dX3_leastUpperEnd_9 (by decide) ?_
      refine jI_ge (tgt := 69) hx hb dX3_leastUpperEnd_11 (by decide) (fun c_1 => ?_) (fun c_1 => ?_)
      · have hv := hv.trans (if_pos c_1)
        have hc_1 : i < 8 := nI_lt8 (n := 8) c_1 (by omega) (by decide)
        refine lv_aload_n hx hb dX3_leastUpperEnd_14 rfl (lv_at hl 3 rfl) ?_
        refine fg_X3_12 hx hb hts hK hP hown dX3_leastUpperEnd_15 ?_
        refine lv_iload hx hb dX3_leastUpperEnd_18 (lv_at hl 0 rfl) ?_
        refine kVl hx hb hml hown hts hK hP hS hA (As := [.int (nI i)]) (rest := []) (c_X2_get l dC dI cA ad hI M (0) (by omega) (nI i) ) (mkV hts q_323 q_51 q_359 q_321 q_322 hyX2_get rfl rfl ⟨(Nat.le_of_ble_eq_true rfl), (Nat.le_of_ble_eq_true rfl)⟩) (w_recv hK hP (k := 13 + 0) (by omega) (lyCr (k := 0) (by omega)) (q := (RX2, TX2, 1)) rfl) rfl hl.1 rfl (Nat.le_of_ble_eq_true rfl) dX3_leastUpperEnd_20 ⟨(Nat.le_of_ble_eq_true rfl), (Nat.le_of_ble_eq_true rfl)⟩ (fun r u H locs hw hP hS _ _ => ?_)
        obtain ⟨hw, hu⟩ := hw
        rw [hu] at hP
        have hv := bnd_name hv hw
        obtain ⟨r_2, er_2⟩ : ∃ z, z = r := ⟨_, rfl⟩
        rw [← er_2] at hv hw
        refine w_eql er_2.symm ?_
        have gr_2 := hw
        refine lv_aload_n hx hb dX3_leastUpperEnd_23 rfl (lv_at hl 3 rfl) ?_
        refine fg_X3_18 hx hb hts hK hP hown dX3_leastUpperEnd_24 ?_
        refine lv_iload hx hb dX3_leastUpperEnd_27 (lv_at hl 0 rfl) ?_
        refine kVl hx hb hml hown hts hK hP hS hA (As := [.int (nI i)]) (rest := [.long r_2]) (c_X2_get l dC dI cA ad hI M (1) (by omega) (nI i) ) (mkV hts q_323 q_51 q_359 q_321 q_322 hyX2_get rfl rfl ⟨(Nat.le_of_ble_eq_true rfl), (Nat.le_of_ble_eq_true rfl)⟩) (w_recv hK hP (k := 13 + 1) (by omega) (lyCr (k := 1) (by omega)) (q := (RX2, TX2, 1)) rfl) rfl hl.1 rfl (Nat.le_of_ble_eq_true rfl) dX3_leastUpperEnd_29 ⟨(Nat.le_of_ble_eq_true rfl), (Nat.le_of_ble_eq_true rfl)⟩ (fun r u H locs hw hP hS _ _ => ?_)
        obtain ⟨hw, hu⟩ := hw
        rw [hu] at hP
        have hv := bnd_name hv hw
        obtain ⟨r_3, er_3⟩ : ∃ z, z = r := ⟨_, rfl⟩
        rw [← er_3] at hv hw
        refine w_eql er_3.symm ?_
        have gr_3 := hw
        refine lv_ladd hx hb dX3_leastUpperEnd_32 ?_
        refine lv_topl (fun x_4 ex_4 => ?_)
        have hv := bnd_name hv ex_4
        refine lv_lstore (lv' := [(5, .long x_4), (4, .int (nI i)), (3, .int y3_7), (1, .long y1_7), (0, .ref (ad (4)))]) hx hb dX3_leastUpperEnd_33 hl (by decide) rfl (fun ls hl => ?_)
        refine lv_aload_n hx hb dX3_leastUpperEnd_35 rfl (lv_at hl 4 rfl) ?_
        refine fg_X3_31 hx hb hts hK hP hown dX3_leastUpperEnd_36 ?_
        refine lv_iload hx hb dX3_leastUpperEnd_39 (lv_at hl 1 rfl) ?_
        refine kSi hx hb hml hown hts (As := [.int (gI M (9)), .int (nI i)]) (rest := []) (c_X3_contains l (gI M (9)) (nI i) ) (mkS hts q_358 q_50 q_356 q_357 hyX3_contains rfl rfl ⟨(Nat.le_of_ble_eq_true rfl), (Nat.le_of_ble_eq_true rfl)⟩) rfl hl.1 rfl (Nat.le_of_ble_eq_true rfl) dX3_leastUpperEnd_41 ⟨(Nat.le_of_ble_eq_true rfl), (Nat.le_of_ble_eq_true rfl)⟩ ?_
        refine lv_topi (fun x_5 ex_5 => ?_)
        have hv := bnd_name hv ex_5
        have bx_5 : x_5 = 0 ∨ x_5 = 1 := by rw [ex_5]; exact f_X3_contains_b (gI M (9)) (nI i)
        refine j0_eq (tgt := 63) hx hb dX3_leastUpperEnd_44 (by decide) (fun c_6 => ?_) (fun c_6 => ?_)
        · have hv := hv.trans (if_pos c_6)
          refine lv_iinc (v := nI (i + 1)) (lv' := [(4, .int (nI (i + 1))), (5, .long x_4), (3, .int y3_7), (1, .long y1_7), (0, .ref (ad (4)))]) hx hb dX3_leastUpperEnd_63 hl (k := 1) rfl (show nI (i) + 1 = nI (i + 1) from nI_1 _) (by decide) rfl (fun ls hl => ?_)
          refine lv_goto (tgt := 7) hx hb dX3_leastUpperEnd_66 (by decide) ?_
          exact ih (i + 1) y3_7 y1_7 _ _ _ (by omega) (by omega)  hv hP hS (lv_sub hl [0, 2, 3, 4] rfl)
        · have hv := hv.trans (if_neg c_6)
          refine lv_iload_n hx hb dX3_leastUpperEnd_47 rfl (lv_at hl 2 rfl) ?_
          refine j0_eq (tgt := 58) hx hb dX3_leastUpperEnd_48 (by decide) (fun c_7 => ?_) (fun c_7 => ?_)
          · have hv := hv.trans (if_pos c_7)
            refine lv_lload hx hb dX3_leastUpperEnd_58 (lv_at hl 0 rfl) ?_
            refine lv_lstore_n (lv' := [(1, .long x_4), (5, .long x_4), (4, .int (nI i)), (3, .int y3_7), (0, .ref (ad (4)))]) hx hb dX3_leastUpperEnd_60 rfl hl (by decide) rfl (fun ls hl => ?_)
            refine lv_iconst (v := 1) hx hb dX3_leastUpperEnd_61 (by decide) ?_
            refine lv_istore_n (lv' := [(3, .int (1 : Int32)), (1, .long x_4), (5, .long x_4), (4, .int (nI i)), (0, .ref (ad (4)))]) hx hb dX3_leastUpperEnd_62 rfl hl (by decide) rfl (fun ls hl => ?_)
            refine lv_iinc (v := nI (i + 1)) (lv' := [(4, .int (nI (i + 1))), (3, .int (1 : Int32)), (1, .long x_4), (5, .long x_4), (0, .ref (ad (4)))]) hx hb dX3_leastUpperEnd_63 hl (k := 3) rfl (show nI (i) + 1 = nI (i + 1) from nI_1 _) (by decide) rfl (fun ls hl => ?_)
            refine lv_goto (tgt := 7) hx hb dX3_leastUpperEnd_66 (by decide) ?_
            exact ih (i + 1) (1 : Int32) x_4 _ _ _ (by omega) (by omega)  hv hP hS (lv_sub hl [0, 1, 2, 4] rfl)
          · have hv := hv.trans (if_neg c_7)
            refine lv_lload hx hb dX3_leastUpperEnd_51 (lv_at hl 0 rfl) ?_
            refine lv_lload_n hx hb dX3_leastUpperEnd_53 rfl (lv_at hl 3 rfl) ?_
            refine jL_ge (tgt := 63) hx hb dX3_leastUpperEnd_54 dX3_leastUpperEnd_55 (by decide) (fun c_8 => ?_) (fun c_8 => ?_)
            · have hv := hv.trans (if_pos c_8)
              refine lv_lload hx hb dX3_leastUpperEnd_58 (lv_at hl 0 rfl) ?_
              refine lv_lstore_n (lv' := [(1, .long x_4), (5, .long x_4), (4, .int (nI i)), (3, .int y3_7), (0, .ref (ad (4)))]) hx hb dX3_leastUpperEnd_60 rfl hl (by decide) rfl (fun ls hl => ?_)
              refine lv_iconst (v := 1) hx hb dX3_leastUpperEnd_61 (by decide) ?_
              refine lv_istore_n (lv' := [(3, .int (1 : Int32)), (1, .long x_4), (5, .long x_4), (4, .int (nI i)), (0, .ref (ad (4)))]) hx hb dX3_leastUpperEnd_62 rfl hl (by decide) rfl (fun ls hl => ?_)
              refine lv_iinc (v := nI (i + 1)) (lv' := [(4, .int (nI (i + 1))), (3, .int (1 : Int32)), (1, .long x_4), (5, .long x_4), (0, .ref (ad (4)))]) hx hb dX3_leastUpperEnd_63 hl (k := 3) rfl (show nI (i) + 1 = nI (i + 1) from nI_1 _) (by decide) rfl (fun ls hl => ?_)
              refine lv_goto (tgt := 7) hx hb dX3_leastUpperEnd_66 (by decide) ?_
              exact ih (i + 1) (1 : Int32) x_4 _ _ _ (by omega) (by omega)  hv hP hS (lv_sub hl [0, 1, 2, 4] rfl)
            · have hv := hv.trans (if_neg c_8)
              refine lv_iinc (v := nI (i + 1)) (lv' := [(4, .int (nI (i + 1))), (5, .long x_4), (3, .int y3_7), (1, .long y1_7), (0, .ref (ad (4)))]) hx hb dX3_leastUpperEnd_63 hl (k := 1) rfl (show nI (i) + 1 = nI (i + 1) from nI_1 _) (by decide) rfl (fun ls hl => ?_)
              refine lv_goto (tgt := 7) hx hb dX3_leastUpperEnd_66 (by decide) ?_
              exact ih (i + 1) y3_7 y1_7 _ _ _ (by omega) (by omega)  hv hP hS (lv_sub hl [0, 2, 3, 4] rfl)
      · have hv := hv.trans (if_neg c_1)
        have hc_1 : ¬ i < 8 := fun h => c_1 (nI_lt h (by decide))
        refine lv_lload_n hx hb dX3_leastUpperEnd_69 rfl (lv_at hl 2 rfl) ?_
        exact W.lret (v := y1_7) hx hb hr (fun t ht hW => ⟨⟨_, M, rfl, ⟨hv.symm.trans eV, rfl⟩, by rw [ht]; exact hP, va_K.moved hW.alike hK⟩, hS.F ht⟩) hS.2.2 dX3_leastUpperEnd_70
  exact L7 (8 + 1 - 0) 0 (0 : Int32) (0 : Int64) _ _ _ (by omega) (by omega)  hv hP hS (lv_sub hl [0, 1, 2, 3] rfl)
def f_X3_intersect_L2  : Nat → Nat → Mem → Mem
  | 0, _, M_2 => M_2
  | r + 1, i, M_2 => if nI i < (8 : Int32) then bnd ((f_X3_contains (gI M_2 (8)) (nI i))) fun x_2 => if x_2 = (0 : Int32) then f_X3_intersect_L2   r (i + 1) M_2  else bnd (f_X2_get M_2 (0) (nI i)) fun r_4 => bnd (f_X2_get M_2 (1) (nI i)) fun r_5 => bnd (f_X3_tryLowEnd M_2  (r_4 - r_5)) fun M_6 => f_X3_intersect_L2   r (i + 1) M_6  else bnd (f_X3_leastUpperEnd M_2  ) fun r_7 => bnd (sL M_2 (5) r_7) fun M_8 => M_8
def f_X3_intersect (M : Mem)  : Mem := f_X3_intersect_L2   (8 + 1 - 0) 0 M 
theorem hyX3_intersect : yX3_intersect.cls ≠ "java/lang/invoke/MethodHandle" ∧ yX3_intersect.cls ≠ "java/lang/invoke/VarHandle" ∧ (parseMethodDescriptor yX3_intersect.desc).map (fun d => d.parameters.length) = some 0 := by decide +kernel
set_option maxHeartbeats 4000000 in
set_option maxRecDepth 100000 in
theorem c_X3_intersect (l : Launch) (dC : Nat → ClassId) (dI : Nat → Nat → Nat) (cA : Nat → ClassId) (ad : Nat → Nat) (hI : Inj 69 ad) (M : Mem)   : Met l yX3_intersect (.code yX3_intersect cX3_intersect 2 none :: AG) ({ frames := 3, cells := 0, slots := 0, locals := 71 } : Room) (va_Pc [.ref (ad (4))] (PC dC dI cA ad M)) (va_Qv (fun u => u = f_X3_intersect M ) (PC dC dI cA ad) (adS 69 ad)) 0 0 (adS 69 ad) := by
  refine cMet (by decide) (Nat.le_of_ble_eq_true rfl) ?_
  intro p e s m below meth c ls hx hb hr hml hlocks hown hts hK hP hS hl
  have hA : ∀ q, adS 69 ad q → adS 69 ad q := fun _ h => h
  have hl : lv_has ls 2 [(0, .ref (ad (4)))] := hl
  obtain ⟨V, eV⟩ : ∃ z, z = f_X3_intersect M  := ⟨_, rfl⟩
  have hv := eV
  unfold f_X3_intersect at hv
  refine lv_iconst (v := 0) hx hb dX3_intersect_0 (by decide) ?_
  refine lv_istore_n (lv' := [(1, .int (0 : Int32)), (0, .ref (ad (4)))]) hx hb dX3_intersect_1 rfl hl (by decide) rfl (fun ls hl => ?_)
  have L2 : ∀ (r i : Nat) (M_2 : Mem) (H : Heap) (locs : List Loc) (ls : Array Slot), i + r = 8 + 1 → i ≤ 8 → V = f_X3_intersect_L2   r i M_2  → va_P (dC, dI) vwCl (wld 69 layC cA ad M_2) H → va_S (adS 69 ad) s.heap H locs → lv_has ls 2 [(1, .int (nI i)), (0, .ref (ad (4)))] → W p l e ({ frames := 3, cells := 0, slots := 0, locals := 71 } : Room) s m ([.ref (ad (4))] : List Value).toArray below meth c H locs 0 0 (MQ below (va_Qv (fun u => u = f_X3_intersect M ) (PC dC dI cA ad) (adS 69 ad)) ([.ref (ad (4))] : List Value).toArray s 0 0 (adS 69 ad)) (F0 m 2 ls []) := by
    intro r
    induction r with
    | zero =>
      intro i M_2 H locs ls hir hib
      omega
    | succ r ih =>
      intro i M_2 H locs ls hir hib hv hP hS hl
      rw [f_X3_intersect_L2] at hv
      refine lv_iload_n hx hb dX3_intersect_2 rfl (lv_at hl 0 rfl) ?_
      refine lv_bipush (v := 8) hx hb dX3_intersect_3 (by decide) ?_
      refine jI_ge (tgt := 46) hx hb dX3_intersect_5 (by decide) (fun c_1 => ?_) (fun c_1 => ?_)
      · have hv := hv.trans (if_pos c_1)
        have hc_1 : i < 8 := nI_lt8 (n := 8) c_1 (by omega) (by decide)
        refine lv_aload_n hx hb dX3_intersect_8 rfl (lv_at hl 1 rfl) ?_
        refine fg_X3_27 hx hb hts hK hP hown dX3_intersect_9 ?_
        refine lv_iload_n hx hb dX3_intersect_12 rfl (lv_at hl 0 rfl) ?_
        refine kSi hx hb hml hown hts (As := [.int (gI M_2 (8)), .int (nI i)]) (rest := []) (c_X3_contains l (gI M_2 (8)) (nI i) ) (mkS hts q_358 q_50 q_356 q_357 hyX3_contains rfl rfl ⟨(Nat.le_of_ble_eq_true rfl), (Nat.le_of_ble_eq_true rfl)⟩) rfl hl.1 rfl (Nat.le_of_ble_eq_true rfl) dX3_intersect_13 ⟨(Nat.le_of_ble_eq_true rfl), (Nat.le_of_ble_eq_true rfl)⟩ ?_
        refine lv_topi (fun x_2 ex_2 => ?_)
        have hv := bnd_name hv ex_2
        have bx_2 : x_2 = 0 ∨ x_2 = 1 := by rw [ex_2]; exact f_X3_contains_b (gI M_2 (8)) (nI i)
        refine j0_eq (tgt := 40) hx hb dX3_intersect_16 (by decide) (fun c_3 => ?_) (fun c_3 => ?_)
        · have hv := hv.trans (if_pos c_3)
          refine lv_iinc (v := nI (i + 1)) (lv' := [(1, .int (nI (i + 1))), (0, .ref (ad (4)))]) hx hb dX3_intersect_40 hl (k := 0) rfl (show nI (i) + 1 = nI (i + 1) from nI_1 _) (by decide) rfl (fun ls hl => ?_)
          refine lv_goto (tgt := 2) hx hb dX3_intersect_43 (by decide) ?_
          exact ih (i + 1)  M_2 _ _ _ (by omega) (by omega)  hv hP hS (lv_sub hl [0, 1] rfl)
        · have hv := hv.trans (if_neg c_3)
          refine lv_aload_n hx hb dX3_intersect_19 rfl (lv_at hl 1 rfl) ?_
          refine lv_aload_n hx hb dX3_intersect_20 rfl (lv_at hl 1 rfl) ?_
          refine fg_X3_12 hx hb hts hK hP hown dX3_intersect_21 ?_
          refine lv_iload_n hx hb dX3_intersect_24 rfl (lv_at hl 0 rfl) ?_
          refine kVl hx hb hml hown hts hK hP hS hA (As := [.int (nI i)]) (rest := [.ref (ad (4))]) (c_X2_get l dC dI cA ad hI M_2 (0) (by omega) (nI i) ) (mkV hts q_323 q_51 q_359 q_321 q_322 hyX2_get rfl rfl ⟨(Nat.le_of_ble_eq_true rfl), (Nat.le_of_ble_eq_true rfl)⟩) (w_recv hK hP (k := 13 + 0) (by omega) (lyCr (k := 0) (by omega)) (q := (RX2, TX2, 1)) rfl) rfl hl.1 rfl (Nat.le_of_ble_eq_true rfl) dX3_intersect_25 ⟨(Nat.le_of_ble_eq_true rfl), (Nat.le_of_ble_eq_true rfl)⟩ (fun r u H locs hw hP hS _ _ => ?_)
          obtain ⟨hw, hu⟩ := hw
          rw [hu] at hP
          have hv := bnd_name hv hw
          obtain ⟨r_4, er_4⟩ : ∃ z, z = r := ⟨_, rfl⟩
          rw [← er_4] at hv hw
          refine w_eql er_4.symm ?_
          have gr_4 := hw
          refine lv_aload_n hx hb dX3_intersect_28 rfl (lv_at hl 1 rfl) ?_
          refine fg_X3_18 hx hb hts hK hP hown dX3_intersect_29 ?_
          refine lv_iload_n hx hb dX3_intersect_32 rfl (lv_at hl 0 rfl) ?_
          refine kVl hx hb hml hown hts hK hP hS hA (As := [.int (nI i)]) (rest := [.long r_4, .ref (ad (4))]) (c_X2_get l dC dI cA ad hI M_2 (1) (by omega) (nI i) ) (mkV hts q_323 q_51 q_359 q_321 q_322 hyX2_get rfl rfl ⟨(Nat.le_of_ble_eq_true rfl), (Nat.le_of_ble_eq_true rfl)⟩) (w_recv hK hP (k := 13 + 1) (by omega) (lyCr (k := 1) (by omega)) (q := (RX2, TX2, 1)) rfl) rfl hl.1 rfl (Nat.le_of_ble_eq_true rfl) dX3_intersect_33 ⟨(Nat.le_of_ble_eq_true rfl), (Nat.le_of_ble_eq_true rfl)⟩ (fun r u H locs hw hP hS _ _ => ?_)
          obtain ⟨hw, hu⟩ := hw
          rw [hu] at hP
          have hv := bnd_name hv hw
          obtain ⟨r_5, er_5⟩ : ∃ z, z = r := ⟨_, rfl⟩
          rw [← er_5] at hv hw
          refine w_eql er_5.symm ?_
          have gr_5 := hw
          refine lv_lsub hx hb dX3_intersect_36 ?_
          refine kVv hx hb hml hown hts hK hP hS hA (As := [.long (r_4 - r_5)]) (rest := []) (c_X3_tryLowEnd l dC dI cA ad hI M_2  (r_4 - r_5) ) (mkV hts q_363 q_50 q_360 q_362 q_4 hyX3_tryLowEnd rfl rfl ⟨(Nat.le_of_ble_eq_true rfl), (Nat.le_of_ble_eq_true rfl)⟩) (w_recv hK hP (k := 4) (by decide) lyC4 (q := (RX3, TX3, 9)) rfl) rfl hl.1 rfl (Nat.le_of_ble_eq_true rfl) dX3_intersect_37 ⟨(Nat.le_of_ble_eq_true rfl), (Nat.le_of_ble_eq_true rfl)⟩ (fun u H locs hw hP hS _ _ => ?_)
          obtain ⟨M_6, eM_6⟩ : ∃ z, z = u := ⟨_, rfl⟩
          rw [← eM_6] at hP hw
          have gM_6 := hw
          have hv := bnd_name hv hw
          refine lv_iinc (v := nI (i + 1)) (lv' := [(1, .int (nI (i + 1))), (0, .ref (ad (4)))]) hx hb dX3_intersect_40 hl (k := 0) rfl (show nI (i) + 1 = nI (i + 1) from nI_1 _) (by decide) rfl (fun ls hl => ?_)
          refine lv_goto (tgt := 2) hx hb dX3_intersect_43 (by decide) ?_
          exact ih (i + 1)  M_6 _ _ _ (by omega) (by omega)  hv hP hS (lv_sub hl [0, 1] rfl)
      · have hv := hv.trans (if_neg c_1)
        have hc_1 : ¬ i < 8 := fun h => c_1 (nI_lt h (by decide))
        refine lv_aload_n hx hb dX3_intersect_46 rfl (lv_at hl 1 rfl) ?_
        refine lv_aload_n hx hb dX3_intersect_47 rfl (lv_at hl 1 rfl) ?_
        refine kVl hx hb hml hown hts hK hP hS hA (As := []) (rest := [.ref (ad (4))]) (c_X3_leastUpperEnd l dC dI cA ad hI M_2   ) (mkV hts q_378 q_50 q_375 q_377 q_6 hyX3_leastUpperEnd rfl rfl ⟨(Nat.le_of_ble_eq_true rfl), (Nat.le_of_ble_eq_true rfl)⟩) (w_recv hK hP (k := 4) (by decide) lyC4 (q := (RX3, TX3, 9)) rfl) rfl hl.1 rfl (Nat.le_of_ble_eq_true rfl) dX3_intersect_48 ⟨(Nat.le_of_ble_eq_true rfl), (Nat.le_of_ble_eq_true rfl)⟩ (fun r u H locs hw hP hS _ _ => ?_)
        obtain ⟨hw, hu⟩ := hw
        rw [hu] at hP
        have hv := bnd_name hv hw
        obtain ⟨r_7, er_7⟩ : ∃ z, z = r := ⟨_, rfl⟩
        rw [← er_7] at hv hw
        refine w_eql er_7.symm ?_
        have gr_7 := hw
        refine fp_X3_41 hx hb hts hK hP hI hS hA hown dX3_intersect_51 (fun H locs hP hS => ?_)
        obtain ⟨M_8, eM_8⟩ : ∃ z : Mem, z = sL M_2 (5) r_7 := ⟨_, rfl⟩
        rw [← eM_8] at hP
        have hv := bnd_name hv eM_8
        exact W.vret hx hb hr (fun t ht hW => ⟨⟨M_8, rfl, hv.symm.trans eV, by rw [ht]; exact hP, va_K.moved hW.alike hK⟩, hS.F ht⟩) hS.2.2 dX3_intersect_54
  exact L2 (8 + 1 - 0) 0  M _ _ _ (by omega) (by omega)  hv hP hS (lv_sub hl [0, 1] rfl)
def f_X3_spread_L22 (M : Mem) (p0 : Int32) (x_2 : Int32) : Nat → Nat → Int64 → Int64
  | 0, _, _ => 0
  | r + 1, i, y3_22 => if nI i < (8 : Int32) then bnd ((f_X3_contains (gI M (10)) (nI i))) fun x_5 => if x_5 = (0 : Int32) then f_X3_spread_L22 M p0 x_2 r (i + 1) y3_22 else bnd (f_X2_get M (0) (nI i)) fun r_7 => bnd (f_X2_get M (0) p0) fun r_8 => bnd ((if 0 < (r_7 - r_8) then (r_7 - r_8) else -(r_7 - r_8))) fun x_9 => bnd ((y3_22 + x_9)) fun x_10 => f_X3_spread_L22 M p0 x_2 r (i + 1) x_10 else (y3_22 / (x_2).toInt64)
def f_X3_spread (M : Mem) (p0 : Int32) : Int64 := bnd ((f_J6_bitCount_0f7a4 (gI M (10)))) fun x_1 => bnd ((x_1 - (1 : Int32))) fun x_2 => if x_2 < (1 : Int32) then (0 : Int64) else f_X3_spread_L22 M p0 x_2 (8 + 1 - 0) 0 (0 : Int64)
theorem hyX3_spread : yX3_spread.cls ≠ "java/lang/invoke/MethodHandle" ∧ yX3_spread.cls ≠ "java/lang/invoke/VarHandle" ∧ (parseMethodDescriptor yX3_spread.desc).map (fun d => d.parameters.length) = some 1 := by decide +kernel
set_option maxHeartbeats 4000000 in
set_option maxRecDepth 100000 in
theorem c_X3_spread (l : Launch) (dC : Nat → ClassId) (dI : Nat → Nat → Nat) (cA : Nat → ClassId) (ad : Nat → Nat) (hI : Inj 69 ad) (M : Mem) (p0 : Int32)  : Met l yX3_spread (.code yX3_spread cX3_spread 6 (some .long) :: AG) ({ frames := 1, cells := 0, slots := 0, locals := 23 } : Room) (va_Pc [.ref (ad (4)), .int p0] (PC dC dI cA ad M)) (va_Ql (fun r u => r = f_X3_spread M p0 ∧ u = M) (PC dC dI cA ad) (adS 69 ad)) 0 0 (adS 69 ad) := by
  refine cMet (by decide) (Nat.le_of_ble_eq_true rfl) ?_
  intro p e s m below meth c ls hx hb hr hml hlocks hown hts hK hP hS hl
  have hA : ∀ q, adS 69 ad q → adS 69 ad q := fun _ h => h
  have hl : lv_has ls 6 [(0, .ref (ad (4))), (1, .int p0)] := hl
  obtain ⟨V, eV⟩ : ∃ z, z = f_X3_spread M p0 := ⟨_, rfl⟩
  have hv := eV
  unfold f_X3_spread at hv
  refine lv_aload_n hx hb dX3_spread_0 rfl (lv_at hl 0 rfl) ?_
  refine fg_X3_34 hx hb hts hK hP hown dX3_spread_1 ?_
  refine kSi hx hb hml hown hts (As := [.int (gI M (10))]) (rest := []) (c_J6_bitCount_0f7a4 l (gI M (10)) ) (mkS hts q_371 q_61 q_369 q_370 hyJ6_bitCount_0f7a4 rfl rfl ⟨(Nat.le_of_ble_eq_true rfl), (Nat.le_of_ble_eq_true rfl)⟩) rfl hl.1 rfl (Nat.le_of_ble_eq_true rfl) dX3_spread_4 ⟨(Nat.le_of_ble_eq_true rfl), (Nat.le_of_ble_eq_true rfl)⟩ ?_
  refine lv_topi (fun x_1 ex_1 => ?_)
  have hv := bnd_name hv ex_1
  refine lv_iconst (v := 1) hx hb dX3_spread_7 (by decide) ?_
  refine lv_isub hx hb dX3_spread_8 ?_
  refine lv_topi (fun x_2 ex_2 => ?_)
  have hv := bnd_name hv ex_2
  refine lv_istore_n (lv' := [(2, .int x_2), (0, .ref (ad (4))), (1, .int p0)]) hx hb dX3_spread_9 rfl hl (by decide) rfl (fun ls hl => ?_)
  refine lv_iload_n hx hb dX3_spread_10 rfl (lv_at hl 0 rfl) ?_
  refine lv_iconst (v := 1) hx hb dX3_spread_11 (by decide) ?_
  refine jI_ge (tgt := 17) hx hb dX3_spread_12 (by decide) (fun c_3 => ?_) (fun c_3 => ?_)
  · have hv := hv.trans (if_pos c_3)
    refine lv_lconst (v := 0) hx hb dX3_spread_15 (by decide) ?_
    exact W.lret (v := (0 : Int64)) hx hb hr (fun t ht hW => ⟨⟨_, M, rfl, ⟨hv.symm.trans eV, rfl⟩, by rw [ht]; exact hP, va_K.moved hW.alike hK⟩, hS.F ht⟩) hS.2.2 dX3_spread_16
  · have hv := hv.trans (if_neg c_3)
    refine lv_lconst (v := 0) hx hb dX3_spread_17 (by decide) ?_
    refine lv_lstore_n (lv' := [(3, .long (0 : Int64)), (2, .int x_2), (0, .ref (ad (4))), (1, .int p0)]) hx hb dX3_spread_18 rfl hl (by decide) rfl (fun ls hl => ?_)
    refine lv_iconst (v := 0) hx hb dX3_spread_19 (by decide) ?_
    refine lv_istore (lv' := [(5, .int (0 : Int32)), (3, .long (0 : Int64)), (2, .int x_2), (0, .ref (ad (4))), (1, .int p0)]) hx hb dX3_spread_20 hl (by decide) rfl (fun ls hl => ?_)
    have L22 : ∀ (r i : Nat) (y3_22 : Int64) (H : Heap) (locs : List Loc) (ls : Array Slot), i + r = 8 + 1 → i ≤ 8 → V = f_X3_spread_L22 M p0 x_2 r i y3_22 → va_P (dC, dI) vwCl (wld 69 layC cA ad M) H → va_S (adS 69 ad) s.heap H locs → lv_has ls 6 [(5, .int (nI i)), (3, .long y3_22), (2, .int x_2), (0, .ref (ad (4))), (1, .int p0)] → W p l e ({ frames := 1, cells := 0, slots := 0, locals := 23 } : Room) s m ([.ref (ad (4)), .int p0] : List Value).toArray below meth c H locs 0 0 (MQ below (va_Ql (fun r u => r = f_X3_spread M p0 ∧ u = M) (PC dC dI cA ad) (adS 69 ad)) ([.ref (ad (4)), .int p0] : List Value).toArray s 0 0 (adS 69 ad)) (F0 m 22 ls []) := by
      intro r
      induction r with
      | zero =>
        intro i y3_22 H locs ls hir hib
        omega
      | succ r ih =>
        intro i y3_22 H locs ls hir hib hv hP hS hl
        rw [f_X3_spread_L22] at hv
        refine lv_iload hx hb dX3_spread_22 (lv_at hl 0 rfl) ?_
        refine lv_bipush (v := 8) hx hb dX3_spread_24 (by decide) ?_
        refine jI_ge (tgt := 71) hx hb dX3_spread_26 (by decide) (fun c_4 => ?_) (fun c_4 => ?_)
        · have hv := hv.trans (if_pos c_4)
          have hc_4 : i < 8 := nI_lt8 (n := 8) c_4 (by omega) (by decide)
          refine lv_aload_n hx hb dX3_spread_29 rfl (lv_at hl 3 rfl) ?_
          refine fg_X3_34 hx hb hts hK hP hown dX3_spread_30 ?_
          refine lv_iload hx hb dX3_spread_33 (lv_at hl 0 rfl) ?_
          refine kSi hx hb hml hown hts (As := [.int (gI M (10)), .int (nI i)]) (rest := []) (c_X3_contains l (gI M (10)) (nI i) ) (mkS hts q_358 q_50 q_356 q_357 hyX3_contains rfl rfl ⟨(Nat.le_of_ble_eq_true rfl), (Nat.le_of_ble_eq_true rfl)⟩) rfl hl.1 rfl (Nat.le_of_ble_eq_true rfl) dX3_spread_35 ⟨(Nat.le_of_ble_eq_true rfl), (Nat.le_of_ble_eq_true rfl)⟩ ?_
          refine lv_topi (fun x_5 ex_5 => ?_)
          have hv := bnd_name hv ex_5
          have bx_5 : x_5 = 0 ∨ x_5 = 1 := by rw [ex_5]; exact f_X3_contains_b (gI M (10)) (nI i)
          refine j0_eq (tgt := 65) hx hb dX3_spread_38 (by decide) (fun c_6 => ?_) (fun c_6 => ?_)
          · have hv := hv.trans (if_pos c_6)
            refine lv_iinc (v := nI (i + 1)) (lv' := [(5, .int (nI (i + 1))), (3, .long y3_22), (2, .int x_2), (0, .ref (ad (4))), (1, .int p0)]) hx hb dX3_spread_65 hl (k := 0) rfl (show nI (i) + 1 = nI (i + 1) from nI_1 _) (by decide) rfl (fun ls hl => ?_)
            refine lv_goto (tgt := 22) hx hb dX3_spread_68 (by decide) ?_
            exact ih (i + 1) y3_22 _ _ _ (by omega) (by omega)  hv hP hS (lv_sub hl [0, 1, 2, 3, 4] rfl)
          · have hv := hv.trans (if_neg c_6)
            refine lv_lload_n hx hb dX3_spread_41 rfl (lv_at hl 1 rfl) ?_
            refine lv_aload_n hx hb dX3_spread_42 rfl (lv_at hl 3 rfl) ?_
            refine fg_X3_12 hx hb hts hK hP hown dX3_spread_43 ?_
            refine lv_iload hx hb dX3_spread_46 (lv_at hl 0 rfl) ?_
            refine kVl hx hb hml hown hts hK hP hS hA (As := [.int (nI i)]) (rest := [.long y3_22]) (c_X2_get l dC dI cA ad hI M (0) (by omega) (nI i) ) (mkV hts q_323 q_51 q_359 q_321 q_322 hyX2_get rfl rfl ⟨(Nat.le_of_ble_eq_true rfl), (Nat.le_of_ble_eq_true rfl)⟩) (w_recv hK hP (k := 13 + 0) (by omega) (lyCr (k := 0) (by omega)) (q := (RX2, TX2, 1)) rfl) rfl hl.1 rfl (Nat.le_of_ble_eq_true rfl) dX3_spread_48 ⟨(Nat.le_of_ble_eq_true rfl), (Nat.le_of_ble_eq_true rfl)⟩ (fun r u H locs hw hP hS _ _ => ?_)
            obtain ⟨hw, hu⟩ := hw
            rw [hu] at hP
            have hv := bnd_name hv hw
            obtain ⟨r_7, er_7⟩ : ∃ z, z = r := ⟨_, rfl⟩
            rw [← er_7] at hv hw
            refine w_eql er_7.symm ?_
            have gr_7 := hw
            refine lv_aload_n hx hb dX3_spread_51 rfl (lv_at hl 3 rfl) ?_
            refine fg_X3_12 hx hb hts hK hP hown dX3_spread_52 ?_
            refine lv_iload_n hx hb dX3_spread_55 rfl (lv_at hl 4 rfl) ?_
            refine kVl hx hb hml hown hts hK hP hS hA (As := [.int p0]) (rest := [.long r_7, .long y3_22]) (c_X2_get l dC dI cA ad hI M (0) (by omega) p0 ) (mkV hts q_323 q_51 q_359 q_321 q_322 hyX2_get rfl rfl ⟨(Nat.le_of_ble_eq_true rfl), (Nat.le_of_ble_eq_true rfl)⟩) (w_recv hK hP (k := 13 + 0) (by omega) (lyCr (k := 0) (by omega)) (q := (RX2, TX2, 1)) rfl) rfl hl.1 rfl (Nat.le_of_ble_eq_true rfl) dX3_spread_56 ⟨(Nat.le_of_ble_eq_true rfl), (Nat.le_of_ble_eq_true rfl)⟩ (fun r u H locs hw hP hS _ _ => ?_)
            obtain ⟨hw, hu⟩ := hw
            rw [hu] at hP
            have hv := bnd_name hv hw
            obtain ⟨r_8, er_8⟩ : ∃ z, z = r := ⟨_, rfl⟩
            rw [← er_8] at hv hw
            refine w_eql er_8.symm ?_
            have gr_8 := hw
            refine lv_lsub hx hb dX3_spread_59 ?_
            refine va_mabs_long hx hb (hml.trans hl.1.symm) hown (hts _ q_368) (hts _ q_342) (hts _ q_59) (hts _ q_343) (Nat.le_of_ble_eq_true rfl) (Nat.le_of_ble_eq_true rfl) (Nat.le_of_ble_eq_true rfl) (Nat.le_of_ble_eq_true rfl) dX3_spread_60 ?_
            refine lv_topl (fun x_9 ex_9 => ?_)
            have hv := bnd_name hv ex_9
            refine lv_ladd hx hb dX3_spread_63 ?_
            refine lv_topl (fun x_10 ex_10 => ?_)
            have hv := bnd_name hv ex_10
            refine lv_lstore_n (lv' := [(3, .long x_10), (5, .int (nI i)), (2, .int x_2), (0, .ref (ad (4))), (1, .int p0)]) hx hb dX3_spread_64 rfl hl (by decide) rfl (fun ls hl => ?_)
            refine lv_iinc (v := nI (i + 1)) (lv' := [(5, .int (nI (i + 1))), (3, .long x_10), (2, .int x_2), (0, .ref (ad (4))), (1, .int p0)]) hx hb dX3_spread_65 hl (k := 1) rfl (show nI (i) + 1 = nI (i + 1) from nI_1 _) (by decide) rfl (fun ls hl => ?_)
            refine lv_goto (tgt := 22) hx hb dX3_spread_68 (by decide) ?_
            exact ih (i + 1) x_10 _ _ _ (by omega) (by omega)  hv hP hS (lv_sub hl [0, 1, 2, 3, 4] rfl)
        · have hv := hv.trans (if_neg c_4)
          have hc_4 : ¬ i < 8 := fun h => c_4 (nI_lt h (by decide))
          refine lv_lload_n hx hb dX3_spread_71 rfl (lv_at hl 1 rfl) ?_
          refine lv_iload_n hx hb dX3_spread_72 rfl (lv_at hl 2 rfl) ?_
          refine lv_i2l (v := (x_2).toInt64) hx hb dX3_spread_73 rfl ?_
          refine lv_ldiv hx hb dX3_spread_74 (od_ne c_3) ?_
          exact W.lret (v := (y3_22 / (x_2).toInt64)) hx hb hr (fun t ht hW => ⟨⟨_, M, rfl, ⟨hv.symm.trans eV, rfl⟩, by rw [ht]; exact hP, va_K.moved hW.alike hK⟩, hS.F ht⟩) hS.2.2 dX3_spread_75
    exact L22 (8 + 1 - 0) 0 (0 : Int64) _ _ _ (by omega) (by omega)  hv hP hS (lv_sub hl [0, 1, 2, 3, 4] rfl)
def f_X3_widestSpread_L4 (M : Mem)  : Nat → Nat → Int32 → Int32
  | 0, _, _ => 0
  | r + 1, i, y1_4 => if nI i < (8 : Int32) then bnd ((f_X3_contains (gI M (10)) (nI i))) fun x_2 => if x_2 = (0 : Int32) then f_X3_widestSpread_L4 M  r (i + 1) y1_4 else if y1_4 = ((-1) : Int32) then f_X3_widestSpread_L4 M  r (i + 1) (nI i) else bnd (f_X3_spread M  (nI i)) fun r_5 => bnd (f_X3_spread M  y1_4) fun r_6 => if r_5 < r_6 then f_X3_widestSpread_L4 M  r (i + 1) y1_4 else f_X3_widestSpread_L4 M  r (i + 1) (nI i) else y1_4
def f_X3_widestSpread (M : Mem)  : Int32 := f_X3_widestSpread_L4 M  (8 + 1 - 0) 0 ((-1) : Int32)
theorem hyX3_widestSpread : yX3_widestSpread.cls ≠ "java/lang/invoke/MethodHandle" ∧ yX3_widestSpread.cls ≠ "java/lang/invoke/VarHandle" ∧ (parseMethodDescriptor yX3_widestSpread.desc).map (fun d => d.parameters.length) = some 0 := by decide +kernel
set_option maxHeartbeats 4000000 in
set_option maxRecDepth 100000 in
theorem c_X3_widestSpread (l : Launch) (dC : Nat → ClassId) (dI : Nat → Nat → Nat) (cA : Nat → ClassId) (ad : Nat → Nat) (hI : Inj 69 ad) (M : Mem)   : Met l yX3_widestSpread (.code yX3_widestSpread cX3_widestSpread 3 (some .int) :: AG) ({ frames := 2, cells := 0, slots := 0, locals := 48 } : Room) (va_Pc [.ref (ad (4))] (PC dC dI cA ad M)) (va_Qi (fun r u => r = f_X3_widestSpread M  ∧ u = M) (PC dC dI cA ad) (adS 69 ad)) 0 0 (adS 69 ad) := by
  refine cMet (by decide) (Nat.le_of_ble_eq_true rfl) ?_
  intro p e s m below meth c ls hx hb hr hml hlocks hown hts hK hP hS hl
  have hA : ∀ q, adS 69 ad q → adS 69 ad q := fun _ h => h
  have hl : lv_has ls 3 [(0, .ref (ad (4)))] := hl
  obtain ⟨V, eV⟩ : ∃ z, z = f_X3_widestSpread M  := ⟨_, rfl⟩
  have hv := eV
  unfold f_X3_widestSpread at hv
  refine lv_iconst (v := (-1)) hx hb dX3_widestSpread_0 (by decide) ?_
  refine lv_istore_n (lv' := [(1, .int ((-1) : Int32)), (0, .ref (ad (4)))]) hx hb dX3_widestSpread_1 rfl hl (by decide) rfl (fun ls hl => ?_)
  refine lv_iconst (v := 0) hx hb dX3_widestSpread_2 (by decide) ?_
  refine lv_istore_n (lv' := [(2, .int (0 : Int32)), (1, .int ((-1) : Int32)), (0, .ref (ad (4)))]) hx hb dX3_widestSpread_3 rfl hl (by decide) rfl (fun ls hl => ?_)
  have L4 : ∀ (r i : Nat) (y1_4 : Int32) (H : Heap) (locs : List Loc) (ls : Array Slot), i + r = 8 + 1 → i ≤ 8 → V = f_X3_widestSpread_L4 M  r i y1_4 → va_P (dC, dI) vwCl (wld 69 layC cA ad M) H → va_S (adS 69 ad) s.heap H locs → lv_has ls 3 [(2, .int (nI i)), (1, .int y1_4), (0, .ref (ad (4)))] → W p l e ({ frames := 2, cells := 0, slots := 0, locals := 48 } : Room) s m ([.ref (ad (4))] : List Value).toArray below meth c H locs 0 0 (MQ below (va_Qi (fun r u => r = f_X3_widestSpread M  ∧ u = M) (PC dC dI cA ad) (adS 69 ad)) ([.ref (ad (4))] : List Value).toArray s 0 0 (adS 69 ad)) (F0 m 4 ls []) := by
    intro r
    induction r with
    | zero =>
      intro i y1_4 H locs ls hir hib
      omega
    | succ r ih =>
      intro i y1_4 H locs ls hir hib hv hP hS hl
      rw [f_X3_widestSpread_L4] at hv
      refine lv_iload_n hx hb dX3_widestSpread_4 rfl (lv_at hl 0 rfl) ?_
      refine lv_bipush (v := 8) hx hb dX3_widestSpread_5 (by decide) ?_
      refine jI_ge (tgt := 48) hx hb dX3_widestSpread_7 (by decide) (fun c_1 => ?_) (fun c_1 => ?_)
      · have hv := hv.trans (if_pos c_1)
        have hc_1 : i < 8 := nI_lt8 (n := 8) c_1 (by omega) (by decide)
        refine lv_aload_n hx hb dX3_widestSpread_10 rfl (lv_at hl 2 rfl) ?_
        refine fg_X3_34 hx hb hts hK hP hown dX3_widestSpread_11 ?_
        refine lv_iload_n hx hb dX3_widestSpread_14 rfl (lv_at hl 0 rfl) ?_
        refine kSi hx hb hml hown hts (As := [.int (gI M (10)), .int (nI i)]) (rest := []) (c_X3_contains l (gI M (10)) (nI i) ) (mkS hts q_358 q_50 q_356 q_357 hyX3_contains rfl rfl ⟨(Nat.le_of_ble_eq_true rfl), (Nat.le_of_ble_eq_true rfl)⟩) rfl hl.1 rfl (Nat.le_of_ble_eq_true rfl) dX3_widestSpread_15 ⟨(Nat.le_of_ble_eq_true rfl), (Nat.le_of_ble_eq_true rfl)⟩ ?_
        refine lv_topi (fun x_2 ex_2 => ?_)
        have hv := bnd_name hv ex_2
        have bx_2 : x_2 = 0 ∨ x_2 = 1 := by rw [ex_2]; exact f_X3_contains_b (gI M (10)) (nI i)
        refine j0_eq (tgt := 42) hx hb dX3_widestSpread_18 (by decide) (fun c_3 => ?_) (fun c_3 => ?_)
        · have hv := hv.trans (if_pos c_3)
          refine lv_iinc (v := nI (i + 1)) (lv' := [(2, .int (nI (i + 1))), (1, .int y1_4), (0, .ref (ad (4)))]) hx hb dX3_widestSpread_42 hl (k := 0) rfl (show nI (i) + 1 = nI (i + 1) from nI_1 _) (by decide) rfl (fun ls hl => ?_)
          refine lv_goto (tgt := 4) hx hb dX3_widestSpread_45 (by decide) ?_
          exact ih (i + 1) y1_4 _ _ _ (by omega) (by omega)  hv hP hS (lv_sub hl [0, 1, 2] rfl)
        · have hv := hv.trans (if_neg c_3)
          refine lv_iload_n hx hb dX3_widestSpread_21 rfl (lv_at hl 1 rfl) ?_
          refine lv_iconst (v := (-1)) hx hb dX3_widestSpread_22 (by decide) ?_
          refine jI_eq (tgt := 40) hx hb dX3_widestSpread_23 (by decide) (fun c_4 => ?_) (fun c_4 => ?_)
          · have hv := hv.trans (if_pos c_4)
            refine lv_iload_n hx hb dX3_widestSpread_40 rfl (lv_at hl 0 rfl) ?_
            refine lv_istore_n (lv' := [(1, .int (nI i)), (2, .int (nI i)), (0, .ref (ad (4)))]) hx hb dX3_widestSpread_41 rfl hl (by decide) rfl (fun ls hl => ?_)
            refine lv_iinc (v := nI (i + 1)) (lv' := [(2, .int (nI (i + 1))), (1, .int (nI i)), (0, .ref (ad (4)))]) hx hb dX3_widestSpread_42 hl (k := 1) rfl (show nI (i) + 1 = nI (i + 1) from nI_1 _) (by decide) rfl (fun ls hl => ?_)
            refine lv_goto (tgt := 4) hx hb dX3_widestSpread_45 (by decide) ?_
            exact ih (i + 1) (nI i) _ _ _ (by omega) (by omega)  hv hP hS (lv_sub hl [0, 1, 2] rfl)
          · have hv := hv.trans (if_neg c_4)
            refine lv_aload_n hx hb dX3_widestSpread_26 rfl (lv_at hl 2 rfl) ?_
            refine lv_iload_n hx hb dX3_widestSpread_27 rfl (lv_at hl 0 rfl) ?_
            refine kVl hx hb hml hown hts hK hP hS hA (As := [.int (nI i)]) (rest := []) (c_X3_spread l dC dI cA ad hI M  (nI i) ) (mkV hts q_390 q_50 q_387 q_389 q_8 hyX3_spread rfl rfl ⟨(Nat.le_of_ble_eq_true rfl), (Nat.le_of_ble_eq_true rfl)⟩) (w_recv hK hP (k := 4) (by decide) lyC4 (q := (RX3, TX3, 9)) rfl) rfl hl.1 rfl (Nat.le_of_ble_eq_true rfl) dX3_widestSpread_28 ⟨(Nat.le_of_ble_eq_true rfl), (Nat.le_of_ble_eq_true rfl)⟩ (fun r u H locs hw hP hS _ _ => ?_)
            obtain ⟨hw, hu⟩ := hw
            rw [hu] at hP
            have hv := bnd_name hv hw
            obtain ⟨r_5, er_5⟩ : ∃ z, z = r := ⟨_, rfl⟩
            rw [← er_5] at hv hw
            refine w_eql er_5.symm ?_
            have gr_5 := hw
            refine lv_aload_n hx hb dX3_widestSpread_31 rfl (lv_at hl 2 rfl) ?_
            refine lv_iload_n hx hb dX3_widestSpread_32 rfl (lv_at hl 1 rfl) ?_
            refine kVl hx hb hml hown hts hK hP hS hA (As := [.int y1_4]) (rest := [.long r_5]) (c_X3_spread l dC dI cA ad hI M  y1_4 ) (mkV hts q_390 q_50 q_387 q_389 q_8 hyX3_spread rfl rfl ⟨(Nat.le_of_ble_eq_true rfl), (Nat.le_of_ble_eq_true rfl)⟩) (w_recv hK hP (k := 4) (by decide) lyC4 (q := (RX3, TX3, 9)) rfl) rfl hl.1 rfl (Nat.le_of_ble_eq_true rfl) dX3_widestSpread_33 ⟨(Nat.le_of_ble_eq_true rfl), (Nat.le_of_ble_eq_true rfl)⟩ (fun r u H locs hw hP hS _ _ => ?_)
            obtain ⟨hw, hu⟩ := hw
            rw [hu] at hP
            have hv := bnd_name hv hw
            obtain ⟨r_6, er_6⟩ : ∃ z, z = r := ⟨_, rfl⟩
            rw [← er_6] at hv hw
            refine w_eql er_6.symm ?_
            have gr_6 := hw
            refine jL_lt (tgt := 42) hx hb dX3_widestSpread_36 dX3_widestSpread_37 (by decide) (fun c_7 => ?_) (fun c_7 => ?_)
            · have hv := hv.trans (if_pos c_7)
              refine lv_iinc (v := nI (i + 1)) (lv' := [(2, .int (nI (i + 1))), (1, .int y1_4), (0, .ref (ad (4)))]) hx hb dX3_widestSpread_42 hl (k := 0) rfl (show nI (i) + 1 = nI (i + 1) from nI_1 _) (by decide) rfl (fun ls hl => ?_)
              refine lv_goto (tgt := 4) hx hb dX3_widestSpread_45 (by decide) ?_
              exact ih (i + 1) y1_4 _ _ _ (by omega) (by omega)  hv hP hS (lv_sub hl [0, 1, 2] rfl)
            · have hv := hv.trans (if_neg c_7)
              refine lv_iload_n hx hb dX3_widestSpread_40 rfl (lv_at hl 0 rfl) ?_
              refine lv_istore_n (lv' := [(1, .int (nI i)), (2, .int (nI i)), (0, .ref (ad (4)))]) hx hb dX3_widestSpread_41 rfl hl (by decide) rfl (fun ls hl => ?_)
              refine lv_iinc (v := nI (i + 1)) (lv' := [(2, .int (nI (i + 1))), (1, .int (nI i)), (0, .ref (ad (4)))]) hx hb dX3_widestSpread_42 hl (k := 1) rfl (show nI (i) + 1 = nI (i + 1) from nI_1 _) (by decide) rfl (fun ls hl => ?_)
              refine lv_goto (tgt := 4) hx hb dX3_widestSpread_45 (by decide) ?_
              exact ih (i + 1) (nI i) _ _ _ (by omega) (by omega)  hv hP hS (lv_sub hl [0, 1, 2] rfl)
      · have hv := hv.trans (if_neg c_1)
        have hc_1 : ¬ i < 8 := fun h => c_1 (nI_lt h (by decide))
        refine lv_iload_n hx hb dX3_widestSpread_48 rfl (lv_at hl 1 rfl) ?_
        exact W.iret (v := y1_4) hx hb hr (fun t ht hW => ⟨⟨_, M, rfl, ⟨hv.symm.trans eV, rfl⟩, by rw [ht]; exact hP, va_K.moved hW.alike hK⟩, hS.F ht⟩) hS.2.2 dX3_widestSpread_49
  exact L4 (8 + 1 - 0) 0 ((-1) : Int32) _ _ _ (by omega) (by omega)  hv hP hS (lv_sub hl [0, 1, 2] rfl)
def f_X3_leastJitter_L7 (M : Mem)  : Nat → Nat → Int32 → Int64 → Int64
  | 0, _, _, _ => 0
  | r + 1, i, y3_7, y1_7 => if nI i < (8 : Int32) then bnd ((f_X3_contains (gI M (10)) (nI i))) fun x_2 => if x_2 = (0 : Int32) then f_X3_leastJitter_L7 M  r (i + 1) y3_7 y1_7 else if y3_7 = (0 : Int32) then bnd (f_X2_get M (2) (nI i)) fun r_5 => f_X3_leastJitter_L7 M  r (i + 1) (1 : Int32) r_5 else bnd (f_X2_get M (2) (nI i)) fun r_6 => if r_6 < y1_7 then bnd (f_X2_get M (2) (nI i)) fun r_8 => f_X3_leastJitter_L7 M  r (i + 1) (1 : Int32) r_8 else f_X3_leastJitter_L7 M  r (i + 1) y3_7 y1_7 else y1_7
def f_X3_leastJitter (M : Mem)  : Int64 := f_X3_leastJitter_L7 M  (8 + 1 - 0) 0 (0 : Int32) (0 : Int64)
theorem hyX3_leastJitter : yX3_leastJitter.cls ≠ "java/lang/invoke/MethodHandle" ∧ yX3_leastJitter.cls ≠ "java/lang/invoke/VarHandle" ∧ (parseMethodDescriptor yX3_leastJitter.desc).map (fun d => d.parameters.length) = some 0 := by decide +kernel
set_option maxHeartbeats 4000000 in
set_option maxRecDepth 100000 in
theorem c_X3_leastJitter (l : Launch) (dC : Nat → ClassId) (dI : Nat → Nat → Nat) (cA : Nat → ClassId) (ad : Nat → Nat) (hI : Inj 69 ad) (M : Mem)   : Met l yX3_leastJitter (.code yX3_leastJitter cX3_leastJitter 5 (some .long) :: AG) ({ frames := 1, cells := 0, slots := 0, locals := 21 } : Room) (va_Pc [.ref (ad (4))] (PC dC dI cA ad M)) (va_Ql (fun r u => r = f_X3_leastJitter M  ∧ u = M) (PC dC dI cA ad) (adS 69 ad)) 0 0 (adS 69 ad) := by
  refine cMet (by decide) (Nat.le_of_ble_eq_true rfl) ?_
  intro p e s m below meth c ls hx hb hr hml hlocks hown hts hK hP hS hl
  have hA : ∀ q, adS 69 ad q → adS 69 ad q := fun _ h => h
  have hl : lv_has ls 5 [(0, .ref (ad (4)))] := hl
  obtain ⟨V, eV⟩ : ∃ z, z = f_X3_leastJitter M  := ⟨_, rfl⟩
  have hv := eV
  unfold f_X3_leastJitter at hv
  refine lv_lconst (v := 0) hx hb dX3_leastJitter_0 (by decide) ?_
  refine lv_lstore_n (lv' := [(1, .long (0 : Int64)), (0, .ref (ad (4)))]) hx hb dX3_leastJitter_1 rfl hl (by decide) rfl (fun ls hl => ?_)
  refine lv_iconst (v := 0) hx hb dX3_leastJitter_2 (by decide) ?_
  refine lv_istore_n (lv' := [(3, .int (0 : Int32)), (1, .long (0 : Int64)), (0, .ref (ad (4)))]) hx hb dX3_leastJitter_3 rfl hl (by decide) rfl (fun ls hl => ?_)
  refine lv_iconst (v := 0) hx hb dX3_leastJitter_4 (by decide) ?_
  refine lv_istore (lv' := [(4, .int (0 : Int32)), (3, .int (0 : Int32)), (1, .long (0 : Int64)), (0, .ref (ad (4)))]) hx hb dX3_leastJitter_5 hl (by decide) rfl (fun ls hl => ?_)
  have L7 : ∀ (r i : Nat) (y3_7 : Int32) (y1_7 : Int64) (H : Heap) (locs : List Loc) (ls : Array Slot), i + r = 8 + 1 → i ≤ 8 → V = f_X3_leastJitter_L7 M  r i y3_7 y1_7 → va_P (dC, dI) vwCl (wld 69 layC cA ad M) H → va_S (adS 69 ad) s.heap H locs → lv_has ls 5 [(4, .int (nI i)), (3, .int y3_7), (1, .long y1_7), (0, .ref (ad (4)))] → W p l e ({ frames := 1, cells := 0, slots := 0, locals := 21 } : Room) s m ([.ref (ad (4))] : List Value).toArray below meth c H locs 0 0 (MQ below (va_Ql (fun r u => r = f_X3_leastJitter M  ∧ u = M) (PC dC dI cA ad) (adS 69 ad)) ([.ref (ad (4))] : List Value).toArray s 0 0 (adS 69 ad)) (F0 m 7 ls []) := by
    intro r
    induction r with
    | zero =>
      intro i y3_7 y1_7 H locs ls hir hib
      omega
    | succ r ih =>
      intro i y3_7 y1_7 H locs ls hir hib hv hP hS hl
      rw [f_X3_leastJitter_L7] at hv
      refine lv_iload hx hb dX3_leastJitter_7 (lv_at hl 0 rfl) ?_
      refine lv_bipush (v := 8) hx hb dX3_leastJitter_9 (by decide) ?_
      refine jI_ge (tgt := 62) hx hb dX3_leastJitter_11 (by decide) (fun c_1 => ?_) (fun c_1 => ?_)
      · have hv := hv.trans (if_pos c_1)
        have hc_1 : i < 8 := nI_lt8 (n := 8) c_1 (by omega) (by decide)
        refine lv_aload_n hx hb dX3_leastJitter_14 rfl (lv_at hl 3 rfl) ?_
        refine fg_X3_34 hx hb hts hK hP hown dX3_leastJitter_15 ?_
        refine lv_iload hx hb dX3_leastJitter_18 (lv_at hl 0 rfl) ?_
        refine kSi hx hb hml hown hts (As := [.int (gI M (10)), .int (nI i)]) (rest := []) (c_X3_contains l (gI M (10)) (nI i) ) (mkS hts q_358 q_50 q_356 q_357 hyX3_contains rfl rfl ⟨(Nat.le_of_ble_eq_true rfl), (Nat.le_of_ble_eq_true rfl)⟩) rfl hl.1 rfl (Nat.le_of_ble_eq_true rfl) dX3_leastJitter_20 ⟨(Nat.le_of_ble_eq_true rfl), (Nat.le_of_ble_eq_true rfl)⟩ ?_
        refine lv_topi (fun x_2 ex_2 => ?_)
        have hv := bnd_name hv ex_2
        have bx_2 : x_2 = 0 ∨ x_2 = 1 := by rw [ex_2]; exact f_X3_contains_b (gI M (10)) (nI i)
        refine j0_eq (tgt := 56) hx hb dX3_leastJitter_23 (by decide) (fun c_3 => ?_) (fun c_3 => ?_)
        · have hv := hv.trans (if_pos c_3)
          refine lv_iinc (v := nI (i + 1)) (lv' := [(4, .int (nI (i + 1))), (3, .int y3_7), (1, .long y1_7), (0, .ref (ad (4)))]) hx hb dX3_leastJitter_56 hl (k := 0) rfl (show nI (i) + 1 = nI (i + 1) from nI_1 _) (by decide) rfl (fun ls hl => ?_)
          refine lv_goto (tgt := 7) hx hb dX3_leastJitter_59 (by decide) ?_
          exact ih (i + 1) y3_7 y1_7 _ _ _ (by omega) (by omega)  hv hP hS (lv_sub hl [0, 1, 2, 3] rfl)
        · have hv := hv.trans (if_neg c_3)
          refine lv_iload_n hx hb dX3_leastJitter_26 rfl (lv_at hl 1 rfl) ?_
          refine j0_eq (tgt := 44) hx hb dX3_leastJitter_27 (by decide) (fun c_4 => ?_) (fun c_4 => ?_)
          · have hv := hv.trans (if_pos c_4)
            refine lv_aload_n hx hb dX3_leastJitter_44 rfl (lv_at hl 3 rfl) ?_
            refine fg_X3_21 hx hb hts hK hP hown dX3_leastJitter_45 ?_
            refine lv_iload hx hb dX3_leastJitter_48 (lv_at hl 0 rfl) ?_
            refine kVl hx hb hml hown hts hK hP hS hA (As := [.int (nI i)]) (rest := []) (c_X2_get l dC dI cA ad hI M (2) (by omega) (nI i) ) (mkV hts q_323 q_51 q_359 q_321 q_322 hyX2_get rfl rfl ⟨(Nat.le_of_ble_eq_true rfl), (Nat.le_of_ble_eq_true rfl)⟩) (w_recv hK hP (k := 13 + 2) (by omega) (lyCr (k := 2) (by omega)) (q := (RX2, TX2, 1)) rfl) rfl hl.1 rfl (Nat.le_of_ble_eq_true rfl) dX3_leastJitter_50 ⟨(Nat.le_of_ble_eq_true rfl), (Nat.le_of_ble_eq_true rfl)⟩ (fun r u H locs hw hP hS _ _ => ?_)
            obtain ⟨hw, hu⟩ := hw
            rw [hu] at hP
            have hv := bnd_name hv hw
            obtain ⟨r_5, er_5⟩ : ∃ z, z = r := ⟨_, rfl⟩
            rw [← er_5] at hv hw
            refine w_eql er_5.symm ?_
            have gr_5 := hw
            refine lv_lstore_n (lv' := [(1, .long r_5), (4, .int (nI i)), (3, .int y3_7), (0, .ref (ad (4)))]) hx hb dX3_leastJitter_53 rfl hl (by decide) rfl (fun ls hl => ?_)
            refine lv_iconst (v := 1) hx hb dX3_leastJitter_54 (by decide) ?_
            refine lv_istore_n (lv' := [(3, .int (1 : Int32)), (1, .long r_5), (4, .int (nI i)), (0, .ref (ad (4)))]) hx hb dX3_leastJitter_55 rfl hl (by decide) rfl (fun ls hl => ?_)
            refine lv_iinc (v := nI (i + 1)) (lv' := [(4, .int (nI (i + 1))), (3, .int (1 : Int32)), (1, .long r_5), (0, .ref (ad (4)))]) hx hb dX3_leastJitter_56 hl (k := 2) rfl (show nI (i) + 1 = nI (i + 1) from nI_1 _) (by decide) rfl (fun ls hl => ?_)
            refine lv_goto (tgt := 7) hx hb dX3_leastJitter_59 (by decide) ?_
            exact ih (i + 1) (1 : Int32) r_5 _ _ _ (by omega) (by omega)  hv hP hS (lv_sub hl [0, 1, 2, 3] rfl)
          · have hv := hv.trans (if_neg c_4)
            refine lv_aload_n hx hb dX3_leastJitter_30 rfl (lv_at hl 3 rfl) ?_
            refine fg_X3_21 hx hb hts hK hP hown dX3_leastJitter_31 ?_
            refine lv_iload hx hb dX3_leastJitter_34 (lv_at hl 0 rfl) ?_
            refine kVl hx hb hml hown hts hK hP hS hA (As := [.int (nI i)]) (rest := []) (c_X2_get l dC dI cA ad hI M (2) (by omega) (nI i) ) (mkV hts q_323 q_51 q_359 q_321 q_322 hyX2_get rfl rfl ⟨(Nat.le_of_ble_eq_true rfl), (Nat.le_of_ble_eq_true rfl)⟩) (w_recv hK hP (k := 13 + 2) (by omega) (lyCr (k := 2) (by omega)) (q := (RX2, TX2, 1)) rfl) rfl hl.1 rfl (Nat.le_of_ble_eq_true rfl) dX3_leastJitter_36 ⟨(Nat.le_of_ble_eq_true rfl), (Nat.le_of_ble_eq_true rfl)⟩ (fun r u H locs hw hP hS _ _ => ?_)
            obtain ⟨hw, hu⟩ := hw
            rw [hu] at hP
            have hv := bnd_name hv hw
            obtain ⟨r_6, er_6⟩ : ∃ z, z = r := ⟨_, rfl⟩
            rw [← er_6] at hv hw
            refine w_eql er_6.symm ?_
            have gr_6 := hw
            refine lv_lload_n hx hb dX3_leastJitter_39 rfl (lv_at hl 2 rfl) ?_
            refine jL_ge (tgt := 56) hx hb dX3_leastJitter_40 dX3_leastJitter_41 (by decide) (fun c_7 => ?_) (fun c_7 => ?_)
            · have hv := hv.trans (if_pos c_7)
              refine lv_aload_n hx hb dX3_leastJitter_44 rfl (lv_at hl 3 rfl) ?_
              refine fg_X3_21 hx hb hts hK hP hown dX3_leastJitter_45 ?_
              refine lv_iload hx hb dX3_leastJitter_48 (lv_at hl 0 rfl) ?_
              refine kVl hx hb hml hown hts hK hP hS hA (As := [.int (nI i)]) (rest := []) (c_X2_get l dC dI cA ad hI M (2) (by omega) (nI i) ) (mkV hts q_323 q_51 q_359 q_321 q_322 hyX2_get rfl rfl ⟨(Nat.le_of_ble_eq_true rfl), (Nat.le_of_ble_eq_true rfl)⟩) (w_recv hK hP (k := 13 + 2) (by omega) (lyCr (k := 2) (by omega)) (q := (RX2, TX2, 1)) rfl) rfl hl.1 rfl (Nat.le_of_ble_eq_true rfl) dX3_leastJitter_50 ⟨(Nat.le_of_ble_eq_true rfl), (Nat.le_of_ble_eq_true rfl)⟩ (fun r u H locs hw hP hS _ _ => ?_)
              obtain ⟨hw, hu⟩ := hw
              rw [hu] at hP
              have hv := bnd_name hv hw
              obtain ⟨r_8, er_8⟩ : ∃ z, z = r := ⟨_, rfl⟩
              rw [← er_8] at hv hw
              refine w_eql er_8.symm ?_
              have gr_8 := hw
              refine lv_lstore_n (lv' := [(1, .long r_8), (4, .int (nI i)), (3, .int y3_7), (0, .ref (ad (4)))]) hx hb dX3_leastJitter_53 rfl hl (by decide) rfl (fun ls hl => ?_)
              refine lv_iconst (v := 1) hx hb dX3_leastJitter_54 (by decide) ?_
              refine lv_istore_n (lv' := [(3, .int (1 : Int32)), (1, .long r_8), (4, .int (nI i)), (0, .ref (ad (4)))]) hx hb dX3_leastJitter_55 rfl hl (by decide) rfl (fun ls hl => ?_)
              refine lv_iinc (v := nI (i + 1)) (lv' := [(4, .int (nI (i + 1))), (3, .int (1 : Int32)), (1, .long r_8), (0, .ref (ad (4)))]) hx hb dX3_leastJitter_56 hl (k := 2) rfl (show nI (i) + 1 = nI (i + 1) from nI_1 _) (by decide) rfl (fun ls hl => ?_)
              refine lv_goto (tgt := 7) hx hb dX3_leastJitter_59 (by decide) ?_
              exact ih (i + 1) (1 : Int32) r_8 _ _ _ (by omega) (by omega)  hv hP hS (lv_sub hl [0, 1, 2, 3] rfl)
            · have hv := hv.trans (if_neg c_7)
              refine lv_iinc (v := nI (i + 1)) (lv' := [(4, .int (nI (i + 1))), (3, .int y3_7), (1, .long y1_7), (0, .ref (ad (4)))]) hx hb dX3_leastJitter_56 hl (k := 0) rfl (show nI (i) + 1 = nI (i + 1) from nI_1 _) (by decide) rfl (fun ls hl => ?_)
              refine lv_goto (tgt := 7) hx hb dX3_leastJitter_59 (by decide) ?_
              exact ih (i + 1) y3_7 y1_7 _ _ _ (by omega) (by omega)  hv hP hS (lv_sub hl [0, 1, 2, 3] rfl)
      · have hv := hv.trans (if_neg c_1)
        have hc_1 : ¬ i < 8 := fun h => c_1 (nI_lt h (by decide))
        refine lv_lload_n hx hb dX3_leastJitter_62 rfl (lv_at hl 2 rfl) ?_
        exact W.lret (v := y1_7) hx hb hr (fun t ht hW => ⟨⟨_, M, rfl, ⟨hv.symm.trans eV, rfl⟩, by rw [ht]; exact hP, va_K.moved hW.alike hK⟩, hS.F ht⟩) hS.2.2 dX3_leastJitter_63
  exact L7 (8 + 1 - 0) 0 (0 : Int32) (0 : Int64) _ _ _ (by omega) (by omega)  hv hP hS (lv_sub hl [0, 1, 2, 3] rfl)
def f_X3_cluster_L10  : Nat → Nat → Mem → Mem
  | 0, _, M_10 => M_10
  | r + 1, i, M_10 => if nI i < (8 : Int32) then bnd ((f_J6_bitCount_0f7a4 (gI M_10 (10)))) fun x_3 => if (3 : Int32) < x_3 then bnd (f_X3_widestSpread M_10  ) fun r_5 => bnd (f_X3_spread M_10  r_5) fun r_6 => bnd (f_X3_leastJitter M_10  ) fun r_7 => if r_7 < r_6 then bnd (sI M_10 (10) (gI M_10 (10) &&& (((1 : Int32) <<< (r_5 &&& 31)) ^^^ ((-1) : Int32)))) fun M_9 => f_X3_cluster_L10   r (i + 1) M_9  else M_10 else M_10 else M_10
def f_X3_cluster (M : Mem)  : Mem := bnd (sI M (10) (gI M (9))) fun M_1 => f_X3_cluster_L10   (8 + 1 - 0) 0 M_1 
theorem hyX3_cluster : yX3_cluster.cls ≠ "java/lang/invoke/MethodHandle" ∧ yX3_cluster.cls ≠ "java/lang/invoke/VarHandle" ∧ (parseMethodDescriptor yX3_cluster.desc).map (fun d => d.parameters.length) = some 0 := by decide +kernel
set_option maxHeartbeats 4000000 in
set_option maxRecDepth 100000 in
theorem c_X3_cluster (l : Launch) (dC : Nat → ClassId) (dI : Nat → Nat → Nat) (cA : Nat → ClassId) (ad : Nat → Nat) (hI : Inj 69 ad) (M : Mem)   : Met l yX3_cluster (.code yX3_cluster cX3_cluster 3 none :: AG) ({ frames := 3, cells := 0, slots := 0, locals := 70 } : Room) (va_Pc [.ref (ad (4))] (PC dC dI cA ad M)) (va_Qv (fun u => u = f_X3_cluster M ) (PC dC dI cA ad) (adS 69 ad)) 0 0 (adS 69 ad) := by
  refine cMet (by decide) (Nat.le_of_ble_eq_true rfl) ?_
  intro p e s m below meth c ls hx hb hr hml hlocks hown hts hK hP hS hl
  have hA : ∀ q, adS 69 ad q → adS 69 ad q := fun _ h => h
  have hl : lv_has ls 3 [(0, .ref (ad (4)))] := hl
  obtain ⟨V, eV⟩ : ∃ z, z = f_X3_cluster M  := ⟨_, rfl⟩
  have hv := eV
  unfold f_X3_cluster at hv
  refine lv_aload_n hx hb dX3_cluster_0 rfl (lv_at hl 0 rfl) ?_
  refine lv_aload_n hx hb dX3_cluster_1 rfl (lv_at hl 0 rfl) ?_
  refine fg_X3_31 hx hb hts hK hP hown dX3_cluster_2 ?_
  refine fp_X3_34 hx hb hts hK hP hI hS hA hown dX3_cluster_5 (fun H locs hP hS => ?_)
  obtain ⟨M_1, eM_1⟩ : ∃ z : Mem, z = sI M (10) (gI M (9)) := ⟨_, rfl⟩
  rw [← eM_1] at hP
  have hv := bnd_name hv eM_1
  refine lv_iconst (v := 0) hx hb dX3_cluster_8 (by decide) ?_
  refine lv_istore_n (lv' := [(1, .int (0 : Int32)), (0, .ref (ad (4)))]) hx hb dX3_cluster_9 rfl hl (by decide) rfl (fun ls hl => ?_)
  have L10 : ∀ (r i : Nat) (M_10 : Mem) (H : Heap) (locs : List Loc) (ls : Array Slot), i + r = 8 + 1 → i ≤ 8 → V = f_X3_cluster_L10   r i M_10  → va_P (dC, dI) vwCl (wld 69 layC cA ad M_10) H → va_S (adS 69 ad) s.heap H locs → lv_has ls 3 [(1, .int (nI i)), (0, .ref (ad (4)))] → W p l e ({ frames := 3, cells := 0, slots := 0, locals := 70 } : Room) s m ([.ref (ad (4))] : List Value).toArray below meth c H locs 0 0 (MQ below (va_Qv (fun u => u = f_X3_cluster M ) (PC dC dI cA ad) (adS 69 ad)) ([.ref (ad (4))] : List Value).toArray s 0 0 (adS 69 ad)) (F0 m 10 ls []) := by
    intro r
    induction r with
    | zero =>
      intro i M_10 H locs ls hir hib
      omega
    | succ r ih =>
      intro i M_10 H locs ls hir hib hv hP hS hl
      rw [f_X3_cluster_L10] at hv
      refine lv_iload_n hx hb dX3_cluster_10 rfl (lv_at hl 0 rfl) ?_
      refine lv_bipush (v := 8) hx hb dX3_cluster_11 (by decide) ?_
      refine jI_ge (tgt := 67) hx hb dX3_cluster_13 (by decide) (fun c_2 => ?_) (fun c_2 => ?_)
      · have hv := hv.trans (if_pos c_2)
        have hc_2 : i < 8 := nI_lt8 (n := 8) c_2 (by omega) (by decide)
        refine lv_aload_n hx hb dX3_cluster_16 rfl (lv_at hl 1 rfl) ?_
        refine fg_X3_34 hx hb hts hK hP hown dX3_cluster_17 ?_
        refine kSi hx hb hml hown hts (As := [.int (gI M_10 (10))]) (rest := []) (c_J6_bitCount_0f7a4 l (gI M_10 (10)) ) (mkS hts q_371 q_61 q_369 q_370 hyJ6_bitCount_0f7a4 rfl rfl ⟨(Nat.le_of_ble_eq_true rfl), (Nat.le_of_ble_eq_true rfl)⟩) rfl hl.1 rfl (Nat.le_of_ble_eq_true rfl) dX3_cluster_20 ⟨(Nat.le_of_ble_eq_true rfl), (Nat.le_of_ble_eq_true rfl)⟩ ?_
        refine lv_topi (fun x_3 ex_3 => ?_)
        have hv := bnd_name hv ex_3
        refine lv_iconst (v := 3) hx hb dX3_cluster_23 (by decide) ?_
        refine jI_gt (tgt := 28) hx hb dX3_cluster_24 (by decide) (fun c_4 => ?_) (fun c_4 => ?_)
        · have hv := hv.trans (if_pos c_4)
          refine lv_aload_n hx hb dX3_cluster_28 rfl (lv_at hl 1 rfl) ?_
          refine kVi hx hb hml hown hts hK hP hS hA (As := []) (rest := []) (c_X3_widestSpread l dC dI cA ad hI M_10   ) (mkV hts q_386 q_50 q_383 q_385 q_7 hyX3_widestSpread rfl rfl ⟨(Nat.le_of_ble_eq_true rfl), (Nat.le_of_ble_eq_true rfl)⟩) (w_recv hK hP (k := 4) (by decide) lyC4 (q := (RX3, TX3, 9)) rfl) rfl hl.1 rfl (Nat.le_of_ble_eq_true rfl) dX3_cluster_29 ⟨(Nat.le_of_ble_eq_true rfl), (Nat.le_of_ble_eq_true rfl)⟩ (fun r u H locs hw hP hS _ _ => ?_)
          obtain ⟨hw, hu⟩ := hw
          rw [hu] at hP
          have hv := bnd_name hv hw
          obtain ⟨r_5, er_5⟩ : ∃ z, z = r := ⟨_, rfl⟩
          rw [← er_5] at hv hw
          refine w_eqi er_5.symm ?_
          have gr_5 := hw
          refine lv_istore_n (lv' := [(2, .int r_5), (1, .int (nI i)), (0, .ref (ad (4)))]) hx hb dX3_cluster_32 rfl hl (by decide) rfl (fun ls hl => ?_)
          refine lv_aload_n hx hb dX3_cluster_33 rfl (lv_at hl 2 rfl) ?_
          refine lv_iload_n hx hb dX3_cluster_34 rfl (lv_at hl 0 rfl) ?_
          refine kVl hx hb hml hown hts hK hP hS hA (As := [.int r_5]) (rest := []) (c_X3_spread l dC dI cA ad hI M_10  r_5 ) (mkV hts q_390 q_50 q_387 q_389 q_8 hyX3_spread rfl rfl ⟨(Nat.le_of_ble_eq_true rfl), (Nat.le_of_ble_eq_true rfl)⟩) (w_recv hK hP (k := 4) (by decide) lyC4 (q := (RX3, TX3, 9)) rfl) rfl hl.1 rfl (Nat.le_of_ble_eq_true rfl) dX3_cluster_35 ⟨(Nat.le_of_ble_eq_true rfl), (Nat.le_of_ble_eq_true rfl)⟩ (fun r u H locs hw hP hS _ _ => ?_)
          obtain ⟨hw, hu⟩ := hw
          rw [hu] at hP
          have hv := bnd_name hv hw
          obtain ⟨r_6, er_6⟩ : ∃ z, z = r := ⟨_, rfl⟩
          rw [← er_6] at hv hw
          refine w_eql er_6.symm ?_
          have gr_6 := hw
          refine lv_aload_n hx hb dX3_cluster_38 rfl (lv_at hl 2 rfl) ?_
          refine kVl hx hb hml hown hts hK hP hS hA (As := []) (rest := [.long r_6]) (c_X3_leastJitter l dC dI cA ad hI M_10   ) (mkV hts q_394 q_50 q_391 q_393 q_9 hyX3_leastJitter rfl rfl ⟨(Nat.le_of_ble_eq_true rfl), (Nat.le_of_ble_eq_true rfl)⟩) (w_recv hK hP (k := 4) (by decide) lyC4 (q := (RX3, TX3, 9)) rfl) rfl hl.1 rfl (Nat.le_of_ble_eq_true rfl) dX3_cluster_39 ⟨(Nat.le_of_ble_eq_true rfl), (Nat.le_of_ble_eq_true rfl)⟩ (fun r u H locs hw hP hS _ _ => ?_)
          obtain ⟨hw, hu⟩ := hw
          rw [hu] at hP
          have hv := bnd_name hv hw
          obtain ⟨r_7, er_7⟩ : ∃ z, z = r := ⟨_, rfl⟩
          rw [← er_7] at hv hw
          refine w_eql er_7.symm ?_
          have gr_7 := hw
          refine jL_gt (tgt := 47) hx hb dX3_cluster_42 dX3_cluster_43 (by decide) (fun c_8 => ?_) (fun c_8 => ?_)
          · have hv := hv.trans (if_pos c_8)
            refine lv_aload_n hx hb dX3_cluster_47 rfl (lv_at hl 2 rfl) ?_
            refine lv_dup hx hb dX3_cluster_48 rfl ?_
            refine fg_X3_34 hx hb hts hK hP hown dX3_cluster_49 ?_
            refine lv_iconst (v := 1) hx hb dX3_cluster_52 (by decide) ?_
            refine lv_iload_n hx hb dX3_cluster_53 rfl (lv_at hl 0 rfl) ?_
            refine lv_ishl hx hb dX3_cluster_54 ?_
            refine lv_iconst (v := (-1)) hx hb dX3_cluster_55 (by decide) ?_
            refine lv_ixor hx hb dX3_cluster_56 ?_
            refine lv_iand hx hb dX3_cluster_57 ?_
            refine fp_X3_34 hx hb hts hK hP hI hS hA hown dX3_cluster_58 (fun H locs hP hS => ?_)
            obtain ⟨M_9, eM_9⟩ : ∃ z : Mem, z = sI M_10 (10) (gI M_10 (10) &&& (((1 : Int32) <<< (r_5 &&& 31)) ^^^ ((-1) : Int32))) := ⟨_, rfl⟩
            rw [← eM_9] at hP
            have hv := bnd_name hv eM_9
            refine lv_iinc (v := nI (i + 1)) (lv' := [(1, .int (nI (i + 1))), (2, .int r_5), (0, .ref (ad (4)))]) hx hb dX3_cluster_61 hl (k := 1) rfl (show nI (i) + 1 = nI (i + 1) from nI_1 _) (by decide) rfl (fun ls hl => ?_)
            refine lv_goto (tgt := 10) hx hb dX3_cluster_64 (by decide) ?_
            exact ih (i + 1)  M_9 _ _ _ (by omega) (by omega)  hv hP hS (lv_sub hl [0, 2] rfl)
          · have hv := hv.trans (if_neg c_8)
            exact W.vret hx hb hr (fun t ht hW => ⟨⟨M_10, rfl, hv.symm.trans eV, by rw [ht]; exact hP, va_K.moved hW.alike hK⟩, hS.F ht⟩) hS.2.2 dX3_cluster_46
        · have hv := hv.trans (if_neg c_4)
          exact W.vret hx hb hr (fun t ht hW => ⟨⟨M_10, rfl, hv.symm.trans eV, by rw [ht]; exact hP, va_K.moved hW.alike hK⟩, hS.F ht⟩) hS.2.2 dX3_cluster_27
      · have hv := hv.trans (if_neg c_2)
        have hc_2 : ¬ i < 8 := fun h => c_2 (nI_lt h (by decide))
        exact W.vret hx hb hr (fun t ht hW => ⟨⟨M_10, rfl, hv.symm.trans eV, by rw [ht]; exact hP, va_K.moved hW.alike hK⟩, hS.F ht⟩) hS.2.2 dX3_cluster_67
  exact L10 (8 + 1 - 0) 0  M_1 _ _ _ (by omega) (by omega)  hv hP hS (lv_sub hl [0, 1] rfl)
def f_X3_weight (M : Mem) (p0 : Int32) : Int64 := bnd (f_X2_get M (1) p0) fun r_1 => bnd ((r_1 + (1 : Int64))) fun x_2 => if (0 : Int64) < x_2 then bnd ((if ((1000000 : Int64) / x_2) < (1 : Int64) then (1 : Int64) else ((1000000 : Int64) / x_2))) fun x_4 => x_4 else (1 : Int64)
theorem hyX3_weight : yX3_weight.cls ≠ "java/lang/invoke/MethodHandle" ∧ yX3_weight.cls ≠ "java/lang/invoke/VarHandle" ∧ (parseMethodDescriptor yX3_weight.desc).map (fun d => d.parameters.length) = some 1 := by decide +kernel
set_option maxHeartbeats 4000000 in
set_option maxRecDepth 100000 in
theorem c_X3_weight (l : Launch) (dC : Nat → ClassId) (dI : Nat → Nat → Nat) (cA : Nat → ClassId) (ad : Nat → Nat) (hI : Inj 69 ad) (M : Mem) (p0 : Int32)  : Met l yX3_weight (.code yX3_weight cX3_weight 4 (some .long) :: AG) ({ frames := 1, cells := 0, slots := 0, locals := 23 } : Room) (va_Pc [.ref (ad (4)), .int p0] (PC dC dI cA ad M)) (va_Ql (fun r u => r = f_X3_weight M p0 ∧ u = M) (PC dC dI cA ad) (adS 69 ad)) 0 0 (adS 69 ad) := by
  refine cMet (by decide) (Nat.le_of_ble_eq_true rfl) ?_
  intro p e s m below meth c ls hx hb hr hml hlocks hown hts hK hP hS hl
  have hA : ∀ q, adS 69 ad q → adS 69 ad q := fun _ h => h
  have hl : lv_has ls 4 [(0, .ref (ad (4))), (1, .int p0)] := hl
  obtain ⟨V, eV⟩ : ∃ z, z = f_X3_weight M p0 := ⟨_, rfl⟩
  have hv := eV
  unfold f_X3_weight at hv
  refine lv_aload_n hx hb dX3_weight_0 rfl (lv_at hl 0 rfl) ?_
  refine fg_X3_18 hx hb hts hK hP hown dX3_weight_1 ?_
  refine lv_iload_n hx hb dX3_weight_4 rfl (lv_at hl 1 rfl) ?_
  refine kVl hx hb hml hown hts hK hP hS hA (As := [.int p0]) (rest := []) (c_X2_get l dC dI cA ad hI M (1) (by omega) p0 ) (mkV hts q_323 q_51 q_359 q_321 q_322 hyX2_get rfl rfl ⟨(Nat.le_of_ble_eq_true rfl), (Nat.le_of_ble_eq_true rfl)⟩) (w_recv hK hP (k := 13 + 1) (by omega) (lyCr (k := 1) (by omega)) (q := (RX2, TX2, 1)) rfl) rfl hl.1 rfl (Nat.le_of_ble_eq_true rfl) dX3_weight_5 ⟨(Nat.le_of_ble_eq_true rfl), (Nat.le_of_ble_eq_true rfl)⟩ (fun r u H locs hw hP hS _ _ => ?_)
  obtain ⟨hw, hu⟩ := hw
  rw [hu] at hP
  have hv := bnd_name hv hw
  obtain ⟨r_1, er_1⟩ : ∃ z, z = r := ⟨_, rfl⟩
  rw [← er_1] at hv hw
  refine w_eql er_1.symm ?_
  have gr_1 := hw
  refine lv_lconst (v := 1) hx hb dX3_weight_8 (by decide) ?_
  refine lv_ladd hx hb dX3_weight_9 ?_
  refine lv_topl (fun x_2 ex_2 => ?_)
  have hv := bnd_name hv ex_2
  refine lv_lstore_n (lv' := [(2, .long x_2), (0, .ref (ad (4))), (1, .int p0)]) hx hb dX3_weight_10 rfl hl (by decide) rfl (fun ls hl => ?_)
  refine lv_lload_n hx hb dX3_weight_11 rfl (lv_at hl 0 rfl) ?_
  refine lv_lconst (v := 0) hx hb dX3_weight_12 (by decide) ?_
  refine jL_le (tgt := 29) hx hb dX3_weight_13 dX3_weight_14 (by decide) (fun c_3 => ?_) (fun c_3 => ?_)
  · have hv := hv.trans (if_pos c_3)
    refine lv_lconst (v := 1) hx hb dX3_weight_17 (by decide) ?_
    refine lv_ldc2 (v := 1000000) hx hb hown (hts _ q_770) dX3_weight_18 ?_
    refine lv_lload_n hx hb dX3_weight_21 rfl (lv_at hl 0 rfl) ?_
    refine lv_ldiv hx hb dX3_weight_22 (pd_ne c_3) ?_
    refine va_mmax_long hx hb (hml.trans hl.1.symm) hown (hts _ q_771) (hts _ q_565) (hts _ q_59) (hts _ q_566) (Nat.le_of_ble_eq_true rfl) (Nat.le_of_ble_eq_true rfl) (Nat.le_of_ble_eq_true rfl) (Nat.le_of_ble_eq_true rfl) dX3_weight_23 ?_
    refine lv_topl (fun x_4 ex_4 => ?_)
    have hv := bnd_name hv ex_4
    refine lv_goto (tgt := 30) hx hb dX3_weight_26 (by decide) ?_
    exact W.lret (v := x_4) hx hb hr (fun t ht hW => ⟨⟨_, M, rfl, ⟨hv.symm.trans eV, rfl⟩, by rw [ht]; exact hP, va_K.moved hW.alike hK⟩, hS.F ht⟩) hS.2.2 dX3_weight_30
  · have hv := hv.trans (if_neg c_3)
    refine lv_lconst (v := 1) hx hb dX3_weight_29 (by decide) ?_
    exact W.lret (v := (1 : Int64)) hx hb hr (fun t ht hW => ⟨⟨_, M, rfl, ⟨hv.symm.trans eV, rfl⟩, by rw [ht]; exact hP, va_K.moved hW.alike hK⟩, hS.F ht⟩) hS.2.2 dX3_weight_30
def f_X3_weightedOffset_L7 (M : Mem)  : Nat → Nat → Int64 → Int64 → Int64
  | 0, _, _, _ => 0
  | r + 1, i, y3_7, y1_7 => if nI i < (8 : Int32) then bnd ((f_X3_contains (gI M (10)) (nI i))) fun x_2 => if x_2 = (0 : Int32) then f_X3_weightedOffset_L7 M  r (i + 1) y3_7 y1_7 else bnd (f_X3_weight M  (nI i)) fun r_4 => bnd (f_X2_get M (0) (nI i)) fun r_5 => bnd ((y1_7 + (r_4 * r_5))) fun x_6 => bnd (f_X3_weight M  (nI i)) fun r_7 => bnd ((y3_7 + r_7)) fun x_8 => f_X3_weightedOffset_L7 M  r (i + 1) x_8 x_6 else if (0 : Int64) < y3_7 then bnd ((f_J9_floorDiv_f86c9 y1_7 y3_7)) fun x_10 => x_10 else (0 : Int64)
def f_X3_weightedOffset (M : Mem)  : Int64 := f_X3_weightedOffset_L7 M  (8 + 1 - 0) 0 (0 : Int64) (0 : Int64)
theorem hyX3_weightedOffset : yX3_weightedOffset.cls ≠ "java/lang/invoke/MethodHandle" ∧ yX3_weightedOffset.cls ≠ "java/lang/invoke/VarHandle" ∧ (parseMethodDescriptor yX3_weightedOffset.desc).map (fun d => d.parameters.length) = some 0 := by decide +kernel
set_option maxHeartbeats 4000000 in
set_option maxRecDepth 100000 in
theorem c_X3_weightedOffset (l : Launch) (dC : Nat → ClassId) (dI : Nat → Nat → Nat) (cA : Nat → ClassId) (ad : Nat → Nat) (hI : Inj 69 ad) (M : Mem)   : Met l yX3_weightedOffset (.code yX3_weightedOffset cX3_weightedOffset 6 (some .long) :: AG) ({ frames := 2, cells := 0, slots := 0, locals := 46 } : Room) (va_Pc [.ref (ad (4))] (PC dC dI cA ad M)) (va_Ql (fun r u => r = f_X3_weightedOffset M  ∧ u = M) (PC dC dI cA ad) (adS 69 ad)) 0 0 (adS 69 ad) := by
  refine cMet (by decide) (Nat.le_of_ble_eq_true rfl) ?_
  intro p e s m below meth c ls hx hb hr hml hlocks hown hts hK hP hS hl
  have hA : ∀ q, adS 69 ad q → adS 69 ad q := fun _ h => h
  have hl : lv_has ls 6 [(0, .ref (ad (4)))] := hl
  obtain ⟨V, eV⟩ : ∃ z, z = f_X3_weightedOffset M  := ⟨_, rfl⟩
  have hv := eV
  unfold f_X3_weightedOffset at hv
  refine lv_lconst (v := 0) hx hb dX3_weightedOffset_0 (by decide) ?_
  refine lv_lstore_n (lv' := [(1, .long (0 : Int64)), (0, .ref (ad (4)))]) hx hb dX3_weightedOffset_1 rfl hl (by decide) rfl (fun ls hl => ?_)
  refine lv_lconst (v := 0) hx hb dX3_weightedOffset_2 (by decide) ?_
  refine lv_lstore_n (lv' := [(3, .long (0 : Int64)), (1, .long (0 : Int64)), (0, .ref (ad (4)))]) hx hb dX3_weightedOffset_3 rfl hl (by decide) rfl (fun ls hl => ?_)
  refine lv_iconst (v := 0) hx hb dX3_weightedOffset_4 (by decide) ?_
  refine lv_istore (lv' := [(5, .int (0 : Int32)), (3, .long (0 : Int64)), (1, .long (0 : Int64)), (0, .ref (ad (4)))]) hx hb dX3_weightedOffset_5 hl (by decide) rfl (fun ls hl => ?_)
  have L7 : ∀ (r i : Nat) (y3_7 : Int64) (y1_7 : Int64) (H : Heap) (locs : List Loc) (ls : Array Slot), i + r = 8 + 1 → i ≤ 8 → V = f_X3_weightedOffset_L7 M  r i y3_7 y1_7 → va_P (dC, dI) vwCl (wld 69 layC cA ad M) H → va_S (adS 69 ad) s.heap H locs → lv_has ls 6 [(5, .int (nI i)), (3, .long y3_7), (1, .long y1_7), (0, .ref (ad (4)))] → W p l e ({ frames := 2, cells := 0, slots := 0, locals := 46 } : Room) s m ([.ref (ad (4))] : List Value).toArray below meth c H locs 0 0 (MQ below (va_Ql (fun r u => r = f_X3_weightedOffset M  ∧ u = M) (PC dC dI cA ad) (adS 69 ad)) ([.ref (ad (4))] : List Value).toArray s 0 0 (adS 69 ad)) (F0 m 7 ls []) := by
    intro r
    induction r with
    | zero =>
      intro i y3_7 y1_7 H locs ls hir hib
      omega
    | succ r ih =>
      intro i y3_7 y1_7 H locs ls hir hib hv hP hS hl
      rw [f_X3_weightedOffset_L7] at hv
      refine lv_iload hx hb dX3_weightedOffset_7 (lv_at hl 0 rfl) ?_
      refine lv_bipush (v := 8) hx hb dX3_weightedOffset_9 (by decide) ?_
      refine jI_ge (tgt := 60) hx hb dX3_weightedOffset_11 (by decide) (fun c_1 => ?_) (fun c_1 => ?_)
      · have hv := hv.trans (if_pos c_1)
        have hc_1 : i < 8 := nI_lt8 (n := 8) c_1 (by omega) (by decide)
        refine lv_aload_n hx hb dX3_weightedOffset_14 rfl (lv_at hl 3 rfl) ?_
        refine fg_X3_34 hx hb hts hK hP hown dX3_weightedOffset_15 ?_
        refine lv_iload hx hb dX3_weightedOffset_18 (lv_at hl 0 rfl) ?_
        refine kSi hx hb hml hown hts (As := [.int (gI M (10)), .int (nI i)]) (rest := []) (c_X3_contains l (gI M (10)) (nI i) ) (mkS hts q_358 q_50 q_356 q_357 hyX3_contains rfl rfl ⟨(Nat.le_of_ble_eq_true rfl), (Nat.le_of_ble_eq_true rfl)⟩) rfl hl.1 rfl (Nat.le_of_ble_eq_true rfl) dX3_weightedOffset_20 ⟨(Nat.le_of_ble_eq_true rfl), (Nat.le_of_ble_eq_true rfl)⟩ ?_
        refine lv_topi (fun x_2 ex_2 => ?_)
        have hv := bnd_name hv ex_2
        have bx_2 : x_2 = 0 ∨ x_2 = 1 := by rw [ex_2]; exact f_X3_contains_b (gI M (10)) (nI i)
        refine j0_eq (tgt := 54) hx hb dX3_weightedOffset_23 (by decide) (fun c_3 => ?_) (fun c_3 => ?_)
        · have hv := hv.trans (if_pos c_3)
          refine lv_iinc (v := nI (i + 1)) (lv' := [(5, .int (nI (i + 1))), (3, .long y3_7), (1, .long y1_7), (0, .ref (ad (4)))]) hx hb dX3_weightedOffset_54 hl (k := 0) rfl (show nI (i) + 1 = nI (i + 1) from nI_1 _) (by decide) rfl (fun ls hl => ?_)
          refine lv_goto (tgt := 7) hx hb dX3_weightedOffset_57 (by decide) ?_
          exact ih (i + 1) y3_7 y1_7 _ _ _ (by omega) (by omega)  hv hP hS (lv_sub hl [0, 1, 2, 3] rfl)
        · have hv := hv.trans (if_neg c_3)
          refine lv_lload_n hx hb dX3_weightedOffset_26 rfl (lv_at hl 2 rfl) ?_
          refine lv_aload_n hx hb dX3_weightedOffset_27 rfl (lv_at hl 3 rfl) ?_
          refine lv_iload hx hb dX3_weightedOffset_28 (lv_at hl 0 rfl) ?_
          refine kVl hx hb hml hown hts hK hP hS hA (As := [.int (nI i)]) (rest := [.long y1_7]) (c_X3_weight l dC dI cA ad hI M  (nI i) ) (mkV hts q_769 q_50 q_766 q_768 q_19 hyX3_weight rfl rfl ⟨(Nat.le_of_ble_eq_true rfl), (Nat.le_of_ble_eq_true rfl)⟩) (w_recv hK hP (k := 4) (by decide) lyC4 (q := (RX3, TX3, 9)) rfl) rfl hl.1 rfl (Nat.le_of_ble_eq_true rfl) dX3_weightedOffset_30 ⟨(Nat.le_of_ble_eq_true rfl), (Nat.le_of_ble_eq_true rfl)⟩ (fun r u H locs hw hP hS _ _ => ?_)
          obtain ⟨hw, hu⟩ := hw
          rw [hu] at hP
          have hv := bnd_name hv hw
          obtain ⟨r_4, er_4⟩ : ∃ z, z = r := ⟨_, rfl⟩
          rw [← er_4] at hv hw
          refine w_eql er_4.symm ?_
          have gr_4 := hw
          refine lv_aload_n hx hb dX3_weightedOffset_33 rfl (lv_at hl 3 rfl) ?_
          refine fg_X3_12 hx hb hts hK hP hown dX3_weightedOffset_34 ?_
          refine lv_iload hx hb dX3_weightedOffset_37 (lv_at hl 0 rfl) ?_
          refine kVl hx hb hml hown hts hK hP hS hA (As := [.int (nI i)]) (rest := [.long r_4, .long y1_7]) (c_X2_get l dC dI cA ad hI M (0) (by omega) (nI i) ) (mkV hts q_323 q_51 q_359 q_321 q_322 hyX2_get rfl rfl ⟨(Nat.le_of_ble_eq_true rfl), (Nat.le_of_ble_eq_true rfl)⟩) (w_recv hK hP (k := 13 + 0) (by omega) (lyCr (k := 0) (by omega)) (q := (RX2, TX2, 1)) rfl) rfl hl.1 rfl (Nat.le_of_ble_eq_true rfl) dX3_weightedOffset_39 ⟨(Nat.le_of_ble_eq_true rfl), (Nat.le_of_ble_eq_true rfl)⟩ (fun r u H locs hw hP hS _ _ => ?_)
          obtain ⟨hw, hu⟩ := hw
          rw [hu] at hP
          have hv := bnd_name hv hw
          obtain ⟨r_5, er_5⟩ : ∃ z, z = r := ⟨_, rfl⟩
          rw [← er_5] at hv hw
          refine w_eql er_5.symm ?_
          have gr_5 := hw
          refine lv_lmul hx hb dX3_weightedOffset_42 ?_
          refine lv_ladd hx hb dX3_weightedOffset_43 ?_
          refine lv_topl (fun x_6 ex_6 => ?_)
          have hv := bnd_name hv ex_6
          refine lv_lstore_n (lv' := [(1, .long x_6), (5, .int (nI i)), (3, .long y3_7), (0, .ref (ad (4)))]) hx hb dX3_weightedOffset_44 rfl hl (by decide) rfl (fun ls hl => ?_)
          refine lv_lload_n hx hb dX3_weightedOffset_45 rfl (lv_at hl 2 rfl) ?_
          refine lv_aload_n hx hb dX3_weightedOffset_46 rfl (lv_at hl 3 rfl) ?_
          refine lv_iload hx hb dX3_weightedOffset_47 (lv_at hl 1 rfl) ?_
          refine kVl hx hb hml hown hts hK hP hS hA (As := [.int (nI i)]) (rest := [.long y3_7]) (c_X3_weight l dC dI cA ad hI M  (nI i) ) (mkV hts q_769 q_50 q_766 q_768 q_19 hyX3_weight rfl rfl ⟨(Nat.le_of_ble_eq_true rfl), (Nat.le_of_ble_eq_true rfl)⟩) (w_recv hK hP (k := 4) (by decide) lyC4 (q := (RX3, TX3, 9)) rfl) rfl hl.1 rfl (Nat.le_of_ble_eq_true rfl) dX3_weightedOffset_49 ⟨(Nat.le_of_ble_eq_true rfl), (Nat.le_of_ble_eq_true rfl)⟩ (fun r u H locs hw hP hS _ _ => ?_)
          obtain ⟨hw, hu⟩ := hw
          rw [hu] at hP
          have hv := bnd_name hv hw
          obtain ⟨r_7, er_7⟩ : ∃ z, z = r := ⟨_, rfl⟩
          rw [← er_7] at hv hw
          refine w_eql er_7.symm ?_
          have gr_7 := hw
          refine lv_ladd hx hb dX3_weightedOffset_52 ?_
          refine lv_topl (fun x_8 ex_8 => ?_)
          have hv := bnd_name hv ex_8
          refine lv_lstore_n (lv' := [(3, .long x_8), (1, .long x_6), (5, .int (nI i)), (0, .ref (ad (4)))]) hx hb dX3_weightedOffset_53 rfl hl (by decide) rfl (fun ls hl => ?_)
          refine lv_iinc (v := nI (i + 1)) (lv' := [(5, .int (nI (i + 1))), (3, .long x_8), (1, .long x_6), (0, .ref (ad (4)))]) hx hb dX3_weightedOffset_54 hl (k := 2) rfl (show nI (i) + 1 = nI (i + 1) from nI_1 _) (by decide) rfl (fun ls hl => ?_)
          refine lv_goto (tgt := 7) hx hb dX3_weightedOffset_57 (by decide) ?_
          exact ih (i + 1) x_8 x_6 _ _ _ (by omega) (by omega)  hv hP hS (lv_sub hl [0, 1, 2, 3] rfl)
      · have hv := hv.trans (if_neg c_1)
        have hc_1 : ¬ i < 8 := fun h => c_1 (nI_lt h (by decide))
        refine lv_lload_n hx hb dX3_weightedOffset_60 rfl (lv_at hl 1 rfl) ?_
        refine lv_lconst (v := 0) hx hb dX3_weightedOffset_61 (by decide) ?_
        refine jL_le (tgt := 74) hx hb dX3_weightedOffset_62 dX3_weightedOffset_63 (by decide) (fun c_9 => ?_) (fun c_9 => ?_)
        · have hv := hv.trans (if_pos c_9)
          refine lv_lload_n hx hb dX3_weightedOffset_66 rfl (lv_at hl 2 rfl) ?_
          refine lv_lload_n hx hb dX3_weightedOffset_67 rfl (lv_at hl 1 rfl) ?_
          refine kSl hx hb hml hown hts (As := [.long y1_7, .long y3_7]) (rest := []) (c_J9_floorDiv_f86c9 l y1_7 y3_7 (pd_ne c_9)) (mkS hts q_242 q_59 q_772 q_241 hyJ9_floorDiv_f86c9 rfl rfl ⟨(Nat.le_of_ble_eq_true rfl), (Nat.le_of_ble_eq_true rfl)⟩) rfl hl.1 rfl (Nat.le_of_ble_eq_true rfl) dX3_weightedOffset_68 ⟨(Nat.le_of_ble_eq_true rfl), (Nat.le_of_ble_eq_true rfl)⟩ ?_
          refine lv_topl (fun x_10 ex_10 => ?_)
          have hv := bnd_name hv ex_10
          refine lv_goto (tgt := 75) hx hb dX3_weightedOffset_71 (by decide) ?_
          exact W.lret (v := x_10) hx hb hr (fun t ht hW => ⟨⟨_, M, rfl, ⟨hv.symm.trans eV, rfl⟩, by rw [ht]; exact hP, va_K.moved hW.alike hK⟩, hS.F ht⟩) hS.2.2 dX3_weightedOffset_75
        · have hv := hv.trans (if_neg c_9)
          refine lv_lconst (v := 0) hx hb dX3_weightedOffset_74 (by decide) ?_
          exact W.lret (v := (0 : Int64)) hx hb hr (fun t ht hW => ⟨⟨_, M, rfl, ⟨hv.symm.trans eV, rfl⟩, by rw [ht]; exact hP, va_K.moved hW.alike hK⟩, hS.F ht⟩) hS.2.2 dX3_weightedOffset_75
  exact L7 (8 + 1 - 0) 0 (0 : Int64) (0 : Int64) _ _ _ (by omega) (by omega)  hv hP hS (lv_sub hl [0, 1, 2, 3] rfl)
def f_X3_isBetter (M : Mem) (p0 : Int32) (p1 : Int32) : Int32 := bnd (f_X2_get M (3) p0) fun r_1 => bnd (f_X2_get M (3) p1) fun r_2 => if r_1 = r_2 then bnd (f_X2_get M (1) p0) fun r_4 => bnd (f_X2_get M (1) p1) fun r_5 => if r_4 < r_5 then (1 : Int32) else (0 : Int32) else bnd (f_X2_get M (3) p0) fun r_7 => bnd (f_X2_get M (3) p1) fun r_8 => if r_7 < r_8 then (1 : Int32) else (0 : Int32)
theorem hyX3_isBetter : yX3_isBetter.cls ≠ "java/lang/invoke/MethodHandle" ∧ yX3_isBetter.cls ≠ "java/lang/invoke/VarHandle" ∧ (parseMethodDescriptor yX3_isBetter.desc).map (fun d => d.parameters.length) = some 2 := by decide +kernel
set_option maxHeartbeats 4000000 in
set_option maxRecDepth 100000 in
theorem c_X3_isBetter (l : Launch) (dC : Nat → ClassId) (dI : Nat → Nat → Nat) (cA : Nat → ClassId) (ad : Nat → Nat) (hI : Inj 69 ad) (M : Mem) (p0 : Int32) (p1 : Int32)  : Met l yX3_isBetter (.code yX3_isBetter cX3_isBetter 3 (some .boolean) :: AG) ({ frames := 1, cells := 0, slots := 0, locals := 21 } : Room) (va_Pc [.ref (ad (4)), .int p0, .int p1] (PC dC dI cA ad M)) (va_Qi (fun r u => r = f_X3_isBetter M p0 p1 ∧ u = M) (PC dC dI cA ad) (adS 69 ad)) 0 0 (adS 69 ad) := by
  refine cMet (by decide) (Nat.le_of_ble_eq_true rfl) ?_
  intro p e s m below meth c ls hx hb hr hml hlocks hown hts hK hP hS hl
  have hA : ∀ q, adS 69 ad q → adS 69 ad q := fun _ h => h
  have hl : lv_has ls 3 [(0, .ref (ad (4))), (1, .int p0), (2, .int p1)] := hl
  obtain ⟨V, eV⟩ : ∃ z, z = f_X3_isBetter M p0 p1 := ⟨_, rfl⟩
  have hv := eV
  unfold f_X3_isBetter at hv
  refine lv_aload_n hx hb dX3_isBetter_0 rfl (lv_at hl 0 rfl) ?_
  refine fg_X3_24 hx hb hts hK hP hown dX3_isBetter_1 ?_
  refine lv_iload_n hx hb dX3_isBetter_4 rfl (lv_at hl 1 rfl) ?_
  refine kVl hx hb hml hown hts hK hP hS hA (As := [.int p0]) (rest := []) (c_X2_get l dC dI cA ad hI M (3) (by omega) p0 ) (mkV hts q_323 q_51 q_359 q_321 q_322 hyX2_get rfl rfl ⟨(Nat.le_of_ble_eq_true rfl), (Nat.le_of_ble_eq_true rfl)⟩) (w_recv hK hP (k := 13 + 3) (by omega) (lyCr (k := 3) (by omega)) (q := (RX2, TX2, 1)) rfl) rfl hl.1 rfl (Nat.le_of_ble_eq_true rfl) dX3_isBetter_5 ⟨(Nat.le_of_ble_eq_true rfl), (Nat.le_of_ble_eq_true rfl)⟩ (fun r u H locs hw hP hS _ _ => ?_)
  obtain ⟨hw, hu⟩ := hw
  rw [hu] at hP
  have hv := bnd_name hv hw
  obtain ⟨r_1, er_1⟩ : ∃ z, z = r := ⟨_, rfl⟩
  rw [← er_1] at hv hw
  refine w_eql er_1.symm ?_
  have gr_1 := hw
  refine lv_aload_n hx hb dX3_isBetter_8 rfl (lv_at hl 0 rfl) ?_
  refine fg_X3_24 hx hb hts hK hP hown dX3_isBetter_9 ?_
  refine lv_iload_n hx hb dX3_isBetter_12 rfl (lv_at hl 2 rfl) ?_
  refine kVl hx hb hml hown hts hK hP hS hA (As := [.int p1]) (rest := [.long r_1]) (c_X2_get l dC dI cA ad hI M (3) (by omega) p1 ) (mkV hts q_323 q_51 q_359 q_321 q_322 hyX2_get rfl rfl ⟨(Nat.le_of_ble_eq_true rfl), (Nat.le_of_ble_eq_true rfl)⟩) (w_recv hK hP (k := 13 + 3) (by omega) (lyCr (k := 3) (by omega)) (q := (RX2, TX2, 1)) rfl) rfl hl.1 rfl (Nat.le_of_ble_eq_true rfl) dX3_isBetter_13 ⟨(Nat.le_of_ble_eq_true rfl), (Nat.le_of_ble_eq_true rfl)⟩ (fun r u H locs hw hP hS _ _ => ?_)
  obtain ⟨hw, hu⟩ := hw
  rw [hu] at hP
  have hv := bnd_name hv hw
  obtain ⟨r_2, er_2⟩ : ∃ z, z = r := ⟨_, rfl⟩
  rw [← er_2] at hv hw
  refine w_eql er_2.symm ?_
  have gr_2 := hw
  refine jL_eq (tgt := 46) hx hb dX3_isBetter_16 dX3_isBetter_17 (by decide) (fun c_3 => ?_) (fun c_3 => ?_)
  · have hv := hv.trans (if_pos c_3)
    refine lv_aload_n hx hb dX3_isBetter_46 rfl (lv_at hl 0 rfl) ?_
    refine fg_X3_18 hx hb hts hK hP hown dX3_isBetter_47 ?_
    refine lv_iload_n hx hb dX3_isBetter_50 rfl (lv_at hl 1 rfl) ?_
    refine kVl hx hb hml hown hts hK hP hS hA (As := [.int p0]) (rest := []) (c_X2_get l dC dI cA ad hI M (1) (by omega) p0 ) (mkV hts q_323 q_51 q_359 q_321 q_322 hyX2_get rfl rfl ⟨(Nat.le_of_ble_eq_true rfl), (Nat.le_of_ble_eq_true rfl)⟩) (w_recv hK hP (k := 13 + 1) (by omega) (lyCr (k := 1) (by omega)) (q := (RX2, TX2, 1)) rfl) rfl hl.1 rfl (Nat.le_of_ble_eq_true rfl) dX3_isBetter_51 ⟨(Nat.le_of_ble_eq_true rfl), (Nat.le_of_ble_eq_true rfl)⟩ (fun r u H locs hw hP hS _ _ => ?_)
    obtain ⟨hw, hu⟩ := hw
    rw [hu] at hP
    have hv := bnd_name hv hw
    obtain ⟨r_4, er_4⟩ : ∃ z, z = r := ⟨_, rfl⟩
    rw [← er_4] at hv hw
    refine w_eql er_4.symm ?_
    have gr_4 := hw
    refine lv_aload_n hx hb dX3_isBetter_54 rfl (lv_at hl 0 rfl) ?_
    refine fg_X3_18 hx hb hts hK hP hown dX3_isBetter_55 ?_
    refine lv_iload_n hx hb dX3_isBetter_58 rfl (lv_at hl 2 rfl) ?_
    refine kVl hx hb hml hown hts hK hP hS hA (As := [.int p1]) (rest := [.long r_4]) (c_X2_get l dC dI cA ad hI M (1) (by omega) p1 ) (mkV hts q_323 q_51 q_359 q_321 q_322 hyX2_get rfl rfl ⟨(Nat.le_of_ble_eq_true rfl), (Nat.le_of_ble_eq_true rfl)⟩) (w_recv hK hP (k := 13 + 1) (by omega) (lyCr (k := 1) (by omega)) (q := (RX2, TX2, 1)) rfl) rfl hl.1 rfl (Nat.le_of_ble_eq_true rfl) dX3_isBetter_59 ⟨(Nat.le_of_ble_eq_true rfl), (Nat.le_of_ble_eq_true rfl)⟩ (fun r u H locs hw hP hS _ _ => ?_)
    obtain ⟨hw, hu⟩ := hw
    rw [hu] at hP
    have hv := bnd_name hv hw
    obtain ⟨r_5, er_5⟩ : ∃ z, z = r := ⟨_, rfl⟩
    rw [← er_5] at hv hw
    refine w_eql er_5.symm ?_
    have gr_5 := hw
    refine jL_ge (tgt := 70) hx hb dX3_isBetter_62 dX3_isBetter_63 (by decide) (fun c_6 => ?_) (fun c_6 => ?_)
    · have hv := hv.trans (if_pos c_6)
      refine lv_iconst (v := 1) hx hb dX3_isBetter_66 (by decide) ?_
      refine lv_goto (tgt := 71) hx hb dX3_isBetter_67 (by decide) ?_
      exact W.zret (v := (1 : Int32)) hx hb hr rfl (fun t ht hW => ⟨⟨_, M, rfl, ⟨hv.symm.trans eV, rfl⟩, by rw [ht]; exact hP, va_K.moved hW.alike hK⟩, hS.F ht⟩) hS.2.2 dX3_isBetter_71
    · have hv := hv.trans (if_neg c_6)
      refine lv_iconst (v := 0) hx hb dX3_isBetter_70 (by decide) ?_
      exact W.zret (v := (0 : Int32)) hx hb hr rfl (fun t ht hW => ⟨⟨_, M, rfl, ⟨hv.symm.trans eV, rfl⟩, by rw [ht]; exact hP, va_K.moved hW.alike hK⟩, hS.F ht⟩) hS.2.2 dX3_isBetter_71
  · have hv := hv.trans (if_neg c_3)
    refine lv_aload_n hx hb dX3_isBetter_20 rfl (lv_at hl 0 rfl) ?_
    refine fg_X3_24 hx hb hts hK hP hown dX3_isBetter_21 ?_
    refine lv_iload_n hx hb dX3_isBetter_24 rfl (lv_at hl 1 rfl) ?_
    refine kVl hx hb hml hown hts hK hP hS hA (As := [.int p0]) (rest := []) (c_X2_get l dC dI cA ad hI M (3) (by omega) p0 ) (mkV hts q_323 q_51 q_359 q_321 q_322 hyX2_get rfl rfl ⟨(Nat.le_of_ble_eq_true rfl), (Nat.le_of_ble_eq_true rfl)⟩) (w_recv hK hP (k := 13 + 3) (by omega) (lyCr (k := 3) (by omega)) (q := (RX2, TX2, 1)) rfl) rfl hl.1 rfl (Nat.le_of_ble_eq_true rfl) dX3_isBetter_25 ⟨(Nat.le_of_ble_eq_true rfl), (Nat.le_of_ble_eq_true rfl)⟩ (fun r u H locs hw hP hS _ _ => ?_)
    obtain ⟨hw, hu⟩ := hw
    rw [hu] at hP
    have hv := bnd_name hv hw
    obtain ⟨r_7, er_7⟩ : ∃ z, z = r := ⟨_, rfl⟩
    rw [← er_7] at hv hw
    refine w_eql er_7.symm ?_
    have gr_7 := hw
    refine lv_aload_n hx hb dX3_isBetter_28 rfl (lv_at hl 0 rfl) ?_
    refine fg_X3_24 hx hb hts hK hP hown dX3_isBetter_29 ?_
    refine lv_iload_n hx hb dX3_isBetter_32 rfl (lv_at hl 2 rfl) ?_
    refine kVl hx hb hml hown hts hK hP hS hA (As := [.int p1]) (rest := [.long r_7]) (c_X2_get l dC dI cA ad hI M (3) (by omega) p1 ) (mkV hts q_323 q_51 q_359 q_321 q_322 hyX2_get rfl rfl ⟨(Nat.le_of_ble_eq_true rfl), (Nat.le_of_ble_eq_true rfl)⟩) (w_recv hK hP (k := 13 + 3) (by omega) (lyCr (k := 3) (by omega)) (q := (RX2, TX2, 1)) rfl) rfl hl.1 rfl (Nat.le_of_ble_eq_true rfl) dX3_isBetter_33 ⟨(Nat.le_of_ble_eq_true rfl), (Nat.le_of_ble_eq_true rfl)⟩ (fun r u H locs hw hP hS _ _ => ?_)
    obtain ⟨hw, hu⟩ := hw
    rw [hu] at hP
    have hv := bnd_name hv hw
    obtain ⟨r_8, er_8⟩ : ∃ z, z = r := ⟨_, rfl⟩
    rw [← er_8] at hv hw
    refine w_eql er_8.symm ?_
    have gr_8 := hw
    refine jL_ge (tgt := 44) hx hb dX3_isBetter_36 dX3_isBetter_37 (by decide) (fun c_9 => ?_) (fun c_9 => ?_)
    · have hv := hv.trans (if_pos c_9)
      refine lv_iconst (v := 1) hx hb dX3_isBetter_40 (by decide) ?_
      refine lv_goto (tgt := 45) hx hb dX3_isBetter_41 (by decide) ?_
      exact W.zret (v := (1 : Int32)) hx hb hr rfl (fun t ht hW => ⟨⟨_, M, rfl, ⟨hv.symm.trans eV, rfl⟩, by rw [ht]; exact hP, va_K.moved hW.alike hK⟩, hS.F ht⟩) hS.2.2 dX3_isBetter_45
    · have hv := hv.trans (if_neg c_9)
      refine lv_iconst (v := 0) hx hb dX3_isBetter_44 (by decide) ?_
      exact W.zret (v := (0 : Int32)) hx hb hr rfl (fun t ht hW => ⟨⟨_, M, rfl, ⟨hv.symm.trans eV, rfl⟩, by rw [ht]; exact hP, va_K.moved hW.alike hK⟩, hS.F ht⟩) hS.2.2 dX3_isBetter_45
theorem f_X3_isBetter_b (M : Mem) (p0 : Int32) (p1 : Int32) : (f_X3_isBetter M p0 p1) = 0 ∨ (f_X3_isBetter M p0 p1) = 1 := by
  unfold f_X3_isBetter
  repeat' (first | with_reducible refine bnd_or (fun _ => ?_) | with_reducible refine bnd2_or (fun _ _ => ?_) | with_reducible refine ite_or ?_ ?_ | exact Or.inl rfl | exact Or.inr rfl)
def f_X3_preferred_L4 (M : Mem)  : Nat → Nat → Int32 → Int32
  | 0, _, _ => 0
  | r + 1, i, y1_4 => if nI i < (8 : Int32) then bnd ((f_X3_contains (gI M (10)) (nI i))) fun x_2 => if x_2 = (0 : Int32) then f_X3_preferred_L4 M  r (i + 1) y1_4 else if y1_4 = ((-1) : Int32) then f_X3_preferred_L4 M  r (i + 1) (nI i) else bnd (f_X3_isBetter M  (nI i) y1_4) fun r_5 => if r_5 = (0 : Int32) then f_X3_preferred_L4 M  r (i + 1) y1_4 else f_X3_preferred_L4 M  r (i + 1) (nI i) else y1_4
def f_X3_preferred (M : Mem)  : Int32 := f_X3_preferred_L4 M  (8 + 1 - 0) 0 ((-1) : Int32)
theorem hyX3_preferred : yX3_preferred.cls ≠ "java/lang/invoke/MethodHandle" ∧ yX3_preferred.cls ≠ "java/lang/invoke/VarHandle" ∧ (parseMethodDescriptor yX3_preferred.desc).map (fun d => d.parameters.length) = some 0 := by decide +kernel
set_option maxHeartbeats 4000000 in
set_option maxRecDepth 100000 in
theorem c_X3_preferred (l : Launch) (dC : Nat → ClassId) (dI : Nat → Nat → Nat) (cA : Nat → ClassId) (ad : Nat → Nat) (hI : Inj 69 ad) (M : Mem)   : Met l yX3_preferred (.code yX3_preferred cX3_preferred 3 (some .int) :: AG) ({ frames := 2, cells := 0, slots := 0, locals := 43 } : Room) (va_Pc [.ref (ad (4))] (PC dC dI cA ad M)) (va_Qi (fun r u => r = f_X3_preferred M  ∧ u = M) (PC dC dI cA ad) (adS 69 ad)) 0 0 (adS 69 ad) := by
  refine cMet (by decide) (Nat.le_of_ble_eq_true rfl) ?_
  intro p e s m below meth c ls hx hb hr hml hlocks hown hts hK hP hS hl
  have hA : ∀ q, adS 69 ad q → adS 69 ad q := fun _ h => h
  have hl : lv_has ls 3 [(0, .ref (ad (4)))] := hl
  obtain ⟨V, eV⟩ : ∃ z, z = f_X3_preferred M  := ⟨_, rfl⟩
  have hv := eV
  unfold f_X3_preferred at hv
  refine lv_iconst (v := (-1)) hx hb dX3_preferred_0 (by decide) ?_
  refine lv_istore_n (lv' := [(1, .int ((-1) : Int32)), (0, .ref (ad (4)))]) hx hb dX3_preferred_1 rfl hl (by decide) rfl (fun ls hl => ?_)
  refine lv_iconst (v := 0) hx hb dX3_preferred_2 (by decide) ?_
  refine lv_istore_n (lv' := [(2, .int (0 : Int32)), (1, .int ((-1) : Int32)), (0, .ref (ad (4)))]) hx hb dX3_preferred_3 rfl hl (by decide) rfl (fun ls hl => ?_)
  have L4 : ∀ (r i : Nat) (y1_4 : Int32) (H : Heap) (locs : List Loc) (ls : Array Slot), i + r = 8 + 1 → i ≤ 8 → V = f_X3_preferred_L4 M  r i y1_4 → va_P (dC, dI) vwCl (wld 69 layC cA ad M) H → va_S (adS 69 ad) s.heap H locs → lv_has ls 3 [(2, .int (nI i)), (1, .int y1_4), (0, .ref (ad (4)))] → W p l e ({ frames := 2, cells := 0, slots := 0, locals := 43 } : Room) s m ([.ref (ad (4))] : List Value).toArray below meth c H locs 0 0 (MQ below (va_Qi (fun r u => r = f_X3_preferred M  ∧ u = M) (PC dC dI cA ad) (adS 69 ad)) ([.ref (ad (4))] : List Value).toArray s 0 0 (adS 69 ad)) (F0 m 4 ls []) := by
    intro r
    induction r with
    | zero =>
      intro i y1_4 H locs ls hir hib
      omega
    | succ r ih =>
      intro i y1_4 H locs ls hir hib hv hP hS hl
      rw [f_X3_preferred_L4] at hv
      refine lv_iload_n hx hb dX3_preferred_4 rfl (lv_at hl 0 rfl) ?_
      refine lv_bipush (v := 8) hx hb dX3_preferred_5 (by decide) ?_
      refine jI_ge (tgt := 43) hx hb dX3_preferred_7 (by decide) (fun c_1 => ?_) (fun c_1 => ?_)
      · have hv := hv.trans (if_pos c_1)
        have hc_1 : i < 8 := nI_lt8 (n := 8) c_1 (by omega) (by decide)
        refine lv_aload_n hx hb dX3_preferred_10 rfl (lv_at hl 2 rfl) ?_
        refine fg_X3_34 hx hb hts hK hP hown dX3_preferred_11 ?_
        refine lv_iload_n hx hb dX3_preferred_14 rfl (lv_at hl 0 rfl) ?_
        refine kSi hx hb hml hown hts (As := [.int (gI M (10)), .int (nI i)]) (rest := []) (c_X3_contains l (gI M (10)) (nI i) ) (mkS hts q_358 q_50 q_356 q_357 hyX3_contains rfl rfl ⟨(Nat.le_of_ble_eq_true rfl), (Nat.le_of_ble_eq_true rfl)⟩) rfl hl.1 rfl (Nat.le_of_ble_eq_true rfl) dX3_preferred_15 ⟨(Nat.le_of_ble_eq_true rfl), (Nat.le_of_ble_eq_true rfl)⟩ ?_
        refine lv_topi (fun x_2 ex_2 => ?_)
        have hv := bnd_name hv ex_2
        have bx_2 : x_2 = 0 ∨ x_2 = 1 := by rw [ex_2]; exact f_X3_contains_b (gI M (10)) (nI i)
        refine j0_eq (tgt := 37) hx hb dX3_preferred_18 (by decide) (fun c_3 => ?_) (fun c_3 => ?_)
        · have hv := hv.trans (if_pos c_3)
          refine lv_iinc (v := nI (i + 1)) (lv' := [(2, .int (nI (i + 1))), (1, .int y1_4), (0, .ref (ad (4)))]) hx hb dX3_preferred_37 hl (k := 0) rfl (show nI (i) + 1 = nI (i + 1) from nI_1 _) (by decide) rfl (fun ls hl => ?_)
          refine lv_goto (tgt := 4) hx hb dX3_preferred_40 (by decide) ?_
          exact ih (i + 1) y1_4 _ _ _ (by omega) (by omega)  hv hP hS (lv_sub hl [0, 1, 2] rfl)
        · have hv := hv.trans (if_neg c_3)
          refine lv_iload_n hx hb dX3_preferred_21 rfl (lv_at hl 1 rfl) ?_
          refine lv_iconst (v := (-1)) hx hb dX3_preferred_22 (by decide) ?_
          refine jI_eq (tgt := 35) hx hb dX3_preferred_23 (by decide) (fun c_4 => ?_) (fun c_4 => ?_)
          · have hv := hv.trans (if_pos c_4)
            refine lv_iload_n hx hb dX3_preferred_35 rfl (lv_at hl 0 rfl) ?_
            refine lv_istore_n (lv' := [(1, .int (nI i)), (2, .int (nI i)), (0, .ref (ad (4)))]) hx hb dX3_preferred_36 rfl hl (by decide) rfl (fun ls hl => ?_)
            refine lv_iinc (v := nI (i + 1)) (lv' := [(2, .int (nI (i + 1))), (1, .int (nI i)), (0, .ref (ad (4)))]) hx hb dX3_preferred_37 hl (k := 1) rfl (show nI (i) + 1 = nI (i + 1) from nI_1 _) (by decide) rfl (fun ls hl => ?_)
            refine lv_goto (tgt := 4) hx hb dX3_preferred_40 (by decide) ?_
            exact ih (i + 1) (nI i) _ _ _ (by omega) (by omega)  hv hP hS (lv_sub hl [0, 1, 2] rfl)
          · have hv := hv.trans (if_neg c_4)
            refine lv_aload_n hx hb dX3_preferred_26 rfl (lv_at hl 2 rfl) ?_
            refine lv_iload_n hx hb dX3_preferred_27 rfl (lv_at hl 0 rfl) ?_
            refine lv_iload_n hx hb dX3_preferred_28 rfl (lv_at hl 1 rfl) ?_
            refine kVi hx hb hml hown hts hK hP hS hA (As := [.int (nI i), .int y1_4]) (rest := []) (c_X3_isBetter l dC dI cA ad hI M  (nI i) y1_4 ) (mkV hts q_435 q_50 q_432 q_434 q_10 hyX3_isBetter rfl rfl ⟨(Nat.le_of_ble_eq_true rfl), (Nat.le_of_ble_eq_true rfl)⟩) (w_recv hK hP (k := 4) (by decide) lyC4 (q := (RX3, TX3, 9)) rfl) rfl hl.1 rfl (Nat.le_of_ble_eq_true rfl) dX3_preferred_29 ⟨(Nat.le_of_ble_eq_true rfl), (Nat.le_of_ble_eq_true rfl)⟩ (fun r u H locs hw hP hS _ _ => ?_)
            obtain ⟨hw, hu⟩ := hw
            rw [hu] at hP
            have hv := bnd_name hv hw
            obtain ⟨r_5, er_5⟩ : ∃ z, z = r := ⟨_, rfl⟩
            rw [← er_5] at hv hw
            refine w_eqi er_5.symm ?_
            have gr_5 := hw
            have br_5 : r_5 = 0 ∨ r_5 = 1 := by rw [hw]; exact f_X3_isBetter_b M  (nI i) y1_4
            refine j0_eq (tgt := 37) hx hb dX3_preferred_32 (by decide) (fun c_6 => ?_) (fun c_6 => ?_)
            · have hv := hv.trans (if_pos c_6)
              refine lv_iinc (v := nI (i + 1)) (lv' := [(2, .int (nI (i + 1))), (1, .int y1_4), (0, .ref (ad (4)))]) hx hb dX3_preferred_37 hl (k := 0) rfl (show nI (i) + 1 = nI (i + 1) from nI_1 _) (by decide) rfl (fun ls hl => ?_)
              refine lv_goto (tgt := 4) hx hb dX3_preferred_40 (by decide) ?_
              exact ih (i + 1) y1_4 _ _ _ (by omega) (by omega)  hv hP hS (lv_sub hl [0, 1, 2] rfl)
            · have hv := hv.trans (if_neg c_6)
              refine lv_iload_n hx hb dX3_preferred_35 rfl (lv_at hl 0 rfl) ?_
              refine lv_istore_n (lv' := [(1, .int (nI i)), (2, .int (nI i)), (0, .ref (ad (4)))]) hx hb dX3_preferred_36 rfl hl (by decide) rfl (fun ls hl => ?_)
              refine lv_iinc (v := nI (i + 1)) (lv' := [(2, .int (nI (i + 1))), (1, .int (nI i)), (0, .ref (ad (4)))]) hx hb dX3_preferred_37 hl (k := 1) rfl (show nI (i) + 1 = nI (i + 1) from nI_1 _) (by decide) rfl (fun ls hl => ?_)
              refine lv_goto (tgt := 4) hx hb dX3_preferred_40 (by decide) ?_
              exact ih (i + 1) (nI i) _ _ _ (by omega) (by omega)  hv hP hS (lv_sub hl [0, 1, 2] rfl)
      · have hv := hv.trans (if_neg c_1)
        have hc_1 : ¬ i < 8 := fun h => c_1 (nI_lt h (by decide))
        refine lv_iload_n hx hb dX3_preferred_43 rfl (lv_at hl 1 rfl) ?_
        exact W.iret (v := y1_4) hx hb hr (fun t ht hW => ⟨⟨_, M, rfl, ⟨hv.symm.trans eV, rfl⟩, by rw [ht]; exact hP, va_K.moved hW.alike hK⟩, hS.F ht⟩) hS.2.2 dX3_preferred_44
  exact L4 (8 + 1 - 0) 0 ((-1) : Int32) _ _ _ (by omega) (by omega)  hv hP hS (lv_sub hl [0, 1, 2] rfl)
