def f_X2_push (M : Mem) (k : Nat) (p0 : Int64) : Mem := bnd (f_X2_get M (k) ((7 : Int32) - (1 : Int32))) fun r_2 => bnd (f_X2_put M (k) (7 : Int32) r_2) fun M_3 => bnd (f_X2_get M_3 (k) ((6 : Int32) - (1 : Int32))) fun r_5 => bnd (f_X2_put M_3 (k) (6 : Int32) r_5) fun M_6 => bnd (f_X2_get M_6 (k) ((5 : Int32) - (1 : Int32))) fun r_8 => bnd (f_X2_put M_6 (k) (5 : Int32) r_8) fun M_9 => bnd (f_X2_get M_9 (k) ((4 : Int32) - (1 : Int32))) fun r_11 => bnd (f_X2_put M_9 (k) (4 : Int32) r_11) fun M_12 => bnd (f_X2_get M_12 (k) ((3 : Int32) - (1 : Int32))) fun r_14 => bnd (f_X2_put M_12 (k) (3 : Int32) r_14) fun M_15 => bnd (f_X2_get M_15 (k) ((2 : Int32) - (1 : Int32))) fun r_17 => bnd (f_X2_put M_15 (k) (2 : Int32) r_17) fun M_18 => bnd (f_X2_get M_18 (k) ((1 : Int32) - (1 : Int32))) fun r_20 => bnd (f_X2_put M_18 (k) (1 : Int32) r_20) fun M_21 => bnd (f_X2_put M_21 (k) (0 : Int32) p0) fun M_23 => M_23
theorem hyX2_push : yX2_push.cls ≠ "java/lang/invoke/MethodHandle" ∧ yX2_push.cls ≠ "java/lang/invoke/VarHandle" ∧ (parseMethodDescriptor yX2_push.desc).map (fun d => d.parameters.length) = some 1 := by decide +kernel
set_option maxHeartbeats 4000000 in
set_option maxRecDepth 100000 in
theorem c_X2_push (l : Launch) (dC : Nat → ClassId) (dI : Nat → Nat → Nat) (cA : Nat → ClassId) (ad : Nat → Nat) (hI : Inj 69 ad) (M : Mem) (k : Nat) (hk : k < 28) (p0 : Int64)  : Met l yX2_push (.code yX2_push cX2_push 4 none :: AG) ({ frames := 1, cells := 0, slots := 0, locals := 23 } : Room) (va_Pc [.ref (ad (13 + k)), .long p0] (PC dC dI cA ad M)) (va_Qv (fun u => u = f_X2_push M k p0) (PC dC dI cA ad) (adS 69 ad)) 0 0 (adS 69 ad) := by
  refine cMet (by decide) (Nat.le_of_ble_eq_true rfl) ?_
  intro p e s m below meth c ls hx hb hr hml hlocks hown hts hK hP hS hl
  have hA : ∀ q, adS 69 ad q → adS 69 ad q := fun _ h => h
  have hl : lv_has ls 4 [(0, .ref (ad (13 + k))), (1, .long p0)] := hl
  obtain ⟨V, eV⟩ : ∃ z, z = f_X2_push M k p0 := ⟨_, rfl⟩
  have hv := eV
  unfold f_X2_push at hv
  refine lv_bipush (v := 7) hx hb dX2_push_0 (by decide) ?_
  refine lv_istore_n (lv' := [(3, .int (7 : Int32)), (0, .ref (ad (13 + k))), (1, .long p0)]) hx hb dX2_push_2 rfl hl (by decide) rfl (fun ls hl => ?_)
  refine lv_iload_n hx hb dX2_push_3 rfl (lv_at hl 0 rfl) ?_
  refine j0_le (tgt := 25) hx hb dX2_push_4 (by decide) (fun _ => ?_) (fun c_1 => absurd (by decide) c_1)
  refine lv_aload_n hx hb dX2_push_7 rfl (lv_at hl 1 rfl) ?_
  refine lv_iload_n hx hb dX2_push_8 rfl (lv_at hl 0 rfl) ?_
  refine lv_aload_n hx hb dX2_push_9 rfl (lv_at hl 1 rfl) ?_
  refine lv_iload_n hx hb dX2_push_10 rfl (lv_at hl 0 rfl) ?_
  refine lv_iconst (v := 1) hx hb dX2_push_11 (by decide) ?_
  refine lv_isub hx hb dX2_push_12 ?_
  refine kVl hx hb hml hown hts hK hP hS hA (As := [.int ((7 : Int32) - (1 : Int32))]) (rest := [.int (7 : Int32), .ref (ad (13 + k))]) (c_X2_get l dC dI cA ad hI M (k) (by omega) ((7 : Int32) - (1 : Int32)) ) (mkV hts q_323 q_51 q_673 q_321 q_322 hyX2_get rfl rfl ⟨(Nat.le_of_ble_eq_true rfl), (Nat.le_of_ble_eq_true rfl)⟩) (w_recv hK hP (k := 13 + k) (by omega) (lyCr (k := k) (by omega)) (q := (RX2, TX2, 1)) rfl) rfl hl.1 rfl (Nat.le_of_ble_eq_true rfl) dX2_push_13 ⟨(Nat.le_of_ble_eq_true rfl), (Nat.le_of_ble_eq_true rfl)⟩ (fun r u H locs hw hP hS _ _ => ?_)
  obtain ⟨hw, hu⟩ := hw
  rw [hu] at hP
  have hv := bnd_name hv hw
  obtain ⟨r_2, er_2⟩ : ∃ z, z = r := ⟨_, rfl⟩
  rw [← er_2] at hv hw
  refine w_eql er_2.symm ?_
  have gr_2 := hw
  refine kVv hx hb hml hown hts hK hP hS hA (As := [.int (7 : Int32), .long r_2]) (rest := []) (c_X2_put l dC dI cA ad hI M (k) (by omega) (7 : Int32) r_2 ) (mkV hts q_327 q_51 q_674 q_325 q_326 hyX2_put rfl rfl ⟨(Nat.le_of_ble_eq_true rfl), (Nat.le_of_ble_eq_true rfl)⟩) (w_recv hK hP (k := 13 + k) (by omega) (lyCr (k := k) (by omega)) (q := (RX2, TX2, 1)) rfl) rfl hl.1 rfl (Nat.le_of_ble_eq_true rfl) dX2_push_16 ⟨(Nat.le_of_ble_eq_true rfl), (Nat.le_of_ble_eq_true rfl)⟩ (fun u H locs hw hP hS _ _ => ?_)
  obtain ⟨M_3, eM_3⟩ : ∃ z, z = u := ⟨_, rfl⟩
  rw [← eM_3] at hP hw
  have gM_3 := hw
  have hv := bnd_name hv hw
  refine lv_iinc (v := 6) (lv' := [(3, .int (6 : Int32)), (0, .ref (ad (13 + k))), (1, .long p0)]) hx hb dX2_push_19 hl (k := 0) rfl (by decide) (by decide) rfl (fun ls hl => ?_)
  refine lv_goto (tgt := 3) hx hb dX2_push_22 (by decide) ?_
  refine lv_iload_n hx hb dX2_push_3 rfl (lv_at hl 0 rfl) ?_
  refine j0_le (tgt := 25) hx hb dX2_push_4 (by decide) (fun _ => ?_) (fun c_4 => absurd (by decide) c_4)
  refine lv_aload_n hx hb dX2_push_7 rfl (lv_at hl 1 rfl) ?_
  refine lv_iload_n hx hb dX2_push_8 rfl (lv_at hl 0 rfl) ?_
  refine lv_aload_n hx hb dX2_push_9 rfl (lv_at hl 1 rfl) ?_
  refine lv_iload_n hx hb dX2_push_10 rfl (lv_at hl 0 rfl) ?_
  refine lv_iconst (v := 1) hx hb dX2_push_11 (by decide) ?_
  refine lv_isub hx hb dX2_push_12 ?_
  refine kVl hx hb hml hown hts hK hP hS hA (As := [.int ((6 : Int32) - (1 : Int32))]) (rest := [.int (6 : Int32), .ref (ad (13 + k))]) (c_X2_get l dC dI cA ad hI M_3 (k) (by omega) ((6 : Int32) - (1 : Int32)) ) (mkV hts q_323 q_51 q_673 q_321 q_322 hyX2_get rfl rfl ⟨(Nat.le_of_ble_eq_true rfl), (Nat.le_of_ble_eq_true rfl)⟩) (w_recv hK hP (k := 13 + k) (by omega) (lyCr (k := k) (by omega)) (q := (RX2, TX2, 1)) rfl) rfl hl.1 rfl (Nat.le_of_ble_eq_true rfl) dX2_push_13 ⟨(Nat.le_of_ble_eq_true rfl), (Nat.le_of_ble_eq_true rfl)⟩ (fun r u H locs hw hP hS _ _ => ?_)
  obtain ⟨hw, hu⟩ := hw
  rw [hu] at hP
  have hv := bnd_name hv hw
  obtain ⟨r_5, er_5⟩ : ∃ z, z = r := ⟨_, rfl⟩
  rw [← er_5] at hv hw
  refine w_eql er_5.symm ?_
  have gr_5 := hw
  refine kVv hx hb hml hown hts hK hP hS hA (As := [.int (6 : Int32), .long r_5]) (rest := []) (c_X2_put l dC dI cA ad hI M_3 (k) (by omega) (6 : Int32) r_5 ) (mkV hts q_327 q_51 q_674 q_325 q_326 hyX2_put rfl rfl ⟨(Nat.le_of_ble_eq_true rfl), (Nat.le_of_ble_eq_true rfl)⟩) (w_recv hK hP (k := 13 + k) (by omega) (lyCr (k := k) (by omega)) (q := (RX2, TX2, 1)) rfl) rfl hl.1 rfl (Nat.le_of_ble_eq_true rfl) dX2_push_16 ⟨(Nat.le_of_ble_eq_true rfl), (Nat.le_of_ble_eq_true rfl)⟩ (fun u H locs hw hP hS _ _ => ?_)
  obtain ⟨M_6, eM_6⟩ : ∃ z, z = u := ⟨_, rfl⟩
  rw [← eM_6] at hP hw
  have gM_6 := hw
  have hv := bnd_name hv hw
  refine lv_iinc (v := 5) (lv' := [(3, .int (5 : Int32)), (0, .ref (ad (13 + k))), (1, .long p0)]) hx hb dX2_push_19 hl (k := 0) rfl (by decide) (by decide) rfl (fun ls hl => ?_)
  refine lv_goto (tgt := 3) hx hb dX2_push_22 (by decide) ?_
  refine lv_iload_n hx hb dX2_push_3 rfl (lv_at hl 0 rfl) ?_
  refine j0_le (tgt := 25) hx hb dX2_push_4 (by decide) (fun _ => ?_) (fun c_7 => absurd (by decide) c_7)
  refine lv_aload_n hx hb dX2_push_7 rfl (lv_at hl 1 rfl) ?_
  refine lv_iload_n hx hb dX2_push_8 rfl (lv_at hl 0 rfl) ?_
  refine lv_aload_n hx hb dX2_push_9 rfl (lv_at hl 1 rfl) ?_
  refine lv_iload_n hx hb dX2_push_10 rfl (lv_at hl 0 rfl) ?_
  refine lv_iconst (v := 1) hx hb dX2_push_11 (by decide) ?_
  refine lv_isub hx hb dX2_push_12 ?_
  refine kVl hx hb hml hown hts hK hP hS hA (As := [.int ((5 : Int32) - (1 : Int32))]) (rest := [.int (5 : Int32), .ref (ad (13 + k))]) (c_X2_get l dC dI cA ad hI M_6 (k) (by omega) ((5 : Int32) - (1 : Int32)) ) (mkV hts q_323 q_51 q_673 q_321 q_322 hyX2_get rfl rfl ⟨(Nat.le_of_ble_eq_true rfl), (Nat.le_of_ble_eq_true rfl)⟩) (w_recv hK hP (k := 13 + k) (by omega) (lyCr (k := k) (by omega)) (q := (RX2, TX2, 1)) rfl) rfl hl.1 rfl (Nat.le_of_ble_eq_true rfl) dX2_push_13 ⟨(Nat.le_of_ble_eq_true rfl), (Nat.le_of_ble_eq_true rfl)⟩ (fun r u H locs hw hP hS _ _ => ?_)
  obtain ⟨hw, hu⟩ := hw
  rw [hu] at hP
  have hv := bnd_name hv hw
  obtain ⟨r_8, er_8⟩ : ∃ z, z = r := ⟨_, rfl⟩
  rw [← er_8] at hv hw
  refine w_eql er_8.symm ?_
  have gr_8 := hw
  refine kVv hx hb hml hown hts hK hP hS hA (As := [.int (5 : Int32), .long r_8]) (rest := []) (c_X2_put l dC dI cA ad hI M_6 (k) (by omega) (5 : Int32) r_8 ) (mkV hts q_327 q_51 q_674 q_325 q_326 hyX2_put rfl rfl ⟨(Nat.le_of_ble_eq_true rfl), (Nat.le_of_ble_eq_true rfl)⟩) (w_recv hK hP (k := 13 + k) (by omega) (lyCr (k := k) (by omega)) (q := (RX2, TX2, 1)) rfl) rfl hl.1 rfl (Nat.le_of_ble_eq_true rfl) dX2_push_16 ⟨(Nat.le_of_ble_eq_true rfl), (Nat.le_of_ble_eq_true rfl)⟩ (fun u H locs hw hP hS _ _ => ?_)
  obtain ⟨M_9, eM_9⟩ : ∃ z, z = u := ⟨_, rfl⟩
  rw [← eM_9] at hP hw
  have gM_9 := hw
  have hv := bnd_name hv hw
  refine lv_iinc (v := 4) (lv' := [(3, .int (4 : Int32)), (0, .ref (ad (13 + k))), (1, .long p0)]) hx hb dX2_push_19 hl (k := 0) rfl (by decide) (by decide) rfl (fun ls hl => ?_)
  refine lv_goto (tgt := 3) hx hb dX2_push_22 (by decide) ?_
  refine lv_iload_n hx hb dX2_push_3 rfl (lv_at hl 0 rfl) ?_
  refine j0_le (tgt := 25) hx hb dX2_push_4 (by decide) (fun _ => ?_) (fun c_10 => absurd (by decide) c_10)
  refine lv_aload_n hx hb dX2_push_7 rfl (lv_at hl 1 rfl) ?_
  refine lv_iload_n hx hb dX2_push_8 rfl (lv_at hl 0 rfl) ?_
  refine lv_aload_n hx hb dX2_push_9 rfl (lv_at hl 1 rfl) ?_
  refine lv_iload_n hx hb dX2_push_10 rfl (lv_at hl 0 rfl) ?_
  refine lv_iconst (v := 1) hx hb dX2_push_11 (by decide) ?_
  refine lv_isub hx hb dX2_push_12 ?_
  refine kVl hx hb hml hown hts hK hP hS hA (As := [.int ((4 : Int32) - (1 : Int32))]) (rest := [.int (4 : Int32), .ref (ad (13 + k))]) (c_X2_get l dC dI cA ad hI M_9 (k) (by omega) ((4 : Int32) - (1 : Int32)) ) (mkV hts q_323 q_51 q_673 q_321 q_322 hyX2_get rfl rfl ⟨(Nat.le_of_ble_eq_true rfl), (Nat.le_of_ble_eq_true rfl)⟩) (w_recv hK hP (k := 13 + k) (by omega) (lyCr (k := k) (by omega)) (q := (RX2, TX2, 1)) rfl) rfl hl.1 rfl (Nat.le_of_ble_eq_true rfl) dX2_push_13 ⟨(Nat.le_of_ble_eq_true rfl), (Nat.le_of_ble_eq_true rfl)⟩ (fun r u H locs hw hP hS _ _ => ?_)
  obtain ⟨hw, hu⟩ := hw
  rw [hu] at hP
  have hv := bnd_name hv hw
  obtain ⟨r_11, er_11⟩ : ∃ z, z = r := ⟨_, rfl⟩
  rw [← er_11] at hv hw
  refine w_eql er_11.symm ?_
  have gr_11 := hw
  refine kVv hx hb hml hown hts hK hP hS hA (As := [.int (4 : Int32), .long r_11]) (rest := []) (c_X2_put l dC dI cA ad hI M_9 (k) (by omega) (4 : Int32) r_11 ) (mkV hts q_327 q_51 q_674 q_325 q_326 hyX2_put rfl rfl ⟨(Nat.le_of_ble_eq_true rfl), (Nat.le_of_ble_eq_true rfl)⟩) (w_recv hK hP (k := 13 + k) (by omega) (lyCr (k := k) (by omega)) (q := (RX2, TX2, 1)) rfl) rfl hl.1 rfl (Nat.le_of_ble_eq_true rfl) dX2_push_16 ⟨(Nat.le_of_ble_eq_true rfl), (Nat.le_of_ble_eq_true rfl)⟩ (fun u H locs hw hP hS _ _ => ?_)
  obtain ⟨M_12, eM_12⟩ : ∃ z, z = u := ⟨_, rfl⟩
  rw [← eM_12] at hP hw
  have gM_12 := hw
  have hv := bnd_name hv hw
  refine lv_iinc (v := 3) (lv' := [(3, .int (3 : Int32)), (0, .ref (ad (13 + k))), (1, .long p0)]) hx hb dX2_push_19 hl (k := 0) rfl (by decide) (by decide) rfl (fun ls hl => ?_)
  refine lv_goto (tgt := 3) hx hb dX2_push_22 (by decide) ?_
  refine lv_iload_n hx hb dX2_push_3 rfl (lv_at hl 0 rfl) ?_
  refine j0_le (tgt := 25) hx hb dX2_push_4 (by decide) (fun _ => ?_) (fun c_13 => absurd (by decide) c_13)
  refine lv_aload_n hx hb dX2_push_7 rfl (lv_at hl 1 rfl) ?_
  refine lv_iload_n hx hb dX2_push_8 rfl (lv_at hl 0 rfl) ?_
  refine lv_aload_n hx hb dX2_push_9 rfl (lv_at hl 1 rfl) ?_
  refine lv_iload_n hx hb dX2_push_10 rfl (lv_at hl 0 rfl) ?_
  refine lv_iconst (v := 1) hx hb dX2_push_11 (by decide) ?_
  refine lv_isub hx hb dX2_push_12 ?_
  refine kVl hx hb hml hown hts hK hP hS hA (As := [.int ((3 : Int32) - (1 : Int32))]) (rest := [.int (3 : Int32), .ref (ad (13 + k))]) (c_X2_get l dC dI cA ad hI M_12 (k) (by omega) ((3 : Int32) - (1 : Int32)) ) (mkV hts q_323 q_51 q_673 q_321 q_322 hyX2_get rfl rfl ⟨(Nat.le_of_ble_eq_true rfl), (Nat.le_of_ble_eq_true rfl)⟩) (w_recv hK hP (k := 13 + k) (by omega) (lyCr (k := k) (by omega)) (q := (RX2, TX2, 1)) rfl) rfl hl.1 rfl (Nat.le_of_ble_eq_true rfl) dX2_push_13 ⟨(Nat.le_of_ble_eq_true rfl), (Nat.le_of_ble_eq_true rfl)⟩ (fun r u H locs hw hP hS _ _ => ?_)
  obtain ⟨hw, hu⟩ := hw
  rw [hu] at hP
  have hv := bnd_name hv hw
  obtain ⟨r_14, er_14⟩ : ∃ z, z = r := ⟨_, rfl⟩
  rw [← er_14] at hv hw
  refine w_eql er_14.symm ?_
  have gr_14 := hw
  refine kVv hx hb hml hown hts hK hP hS hA (As := [.int (3 : Int32), .long r_14]) (rest := []) (c_X2_put l dC dI cA ad hI M_12 (k) (by omega) (3 : Int32) r_14 ) (mkV hts q_327 q_51 q_674 q_325 q_326 hyX2_put rfl rfl ⟨(Nat.le_of_ble_eq_true rfl), (Nat.le_of_ble_eq_true rfl)⟩) (w_recv hK hP (k := 13 + k) (by omega) (lyCr (k := k) (by omega)) (q := (RX2, TX2, 1)) rfl) rfl hl.1 rfl (Nat.le_of_ble_eq_true rfl) dX2_push_16 ⟨(Nat.le_of_ble_eq_true rfl), (Nat.le_of_ble_eq_true rfl)⟩ (fun u H locs hw hP hS _ _ => ?_)
  obtain ⟨M_15, eM_15⟩ : ∃ z, z = u := ⟨_, rfl⟩
  rw [← eM_15] at hP hw
  have gM_15 := hw
  have hv := bnd_name hv hw
  refine lv_iinc (v := 2) (lv' := [(3, .int (2 : Int32)), (0, .ref (ad (13 + k))), (1, .long p0)]) hx hb dX2_push_19 hl (k := 0) rfl (by decide) (by decide) rfl (fun ls hl => ?_)
  refine lv_goto (tgt := 3) hx hb dX2_push_22 (by decide) ?_
  refine lv_iload_n hx hb dX2_push_3 rfl (lv_at hl 0 rfl) ?_
  refine j0_le (tgt := 25) hx hb dX2_push_4 (by decide) (fun _ => ?_) (fun c_16 => absurd (by decide) c_16)
  refine lv_aload_n hx hb dX2_push_7 rfl (lv_at hl 1 rfl) ?_
  refine lv_iload_n hx hb dX2_push_8 rfl (lv_at hl 0 rfl) ?_
  refine lv_aload_n hx hb dX2_push_9 rfl (lv_at hl 1 rfl) ?_
  refine lv_iload_n hx hb dX2_push_10 rfl (lv_at hl 0 rfl) ?_
  refine lv_iconst (v := 1) hx hb dX2_push_11 (by decide) ?_
  refine lv_isub hx hb dX2_push_12 ?_
  refine kVl hx hb hml hown hts hK hP hS hA (As := [.int ((2 : Int32) - (1 : Int32))]) (rest := [.int (2 : Int32), .ref (ad (13 + k))]) (c_X2_get l dC dI cA ad hI M_15 (k) (by omega) ((2 : Int32) - (1 : Int32)) ) (mkV hts q_323 q_51 q_673 q_321 q_322 hyX2_get rfl rfl ⟨(Nat.le_of_ble_eq_true rfl), (Nat.le_of_ble_eq_true rfl)⟩) (w_recv hK hP (k := 13 + k) (by omega) (lyCr (k := k) (by omega)) (q := (RX2, TX2, 1)) rfl) rfl hl.1 rfl (Nat.le_of_ble_eq_true rfl) dX2_push_13 ⟨(Nat.le_of_ble_eq_true rfl), (Nat.le_of_ble_eq_true rfl)⟩ (fun r u H locs hw hP hS _ _ => ?_)
  obtain ⟨hw, hu⟩ := hw
  rw [hu] at hP
  have hv := bnd_name hv hw
  obtain ⟨r_17, er_17⟩ : ∃ z, z = r := ⟨_, rfl⟩
  rw [← er_17] at hv hw
  refine w_eql er_17.symm ?_
  have gr_17 := hw
  refine kVv hx hb hml hown hts hK hP hS hA (As := [.int (2 : Int32), .long r_17]) (rest := []) (c_X2_put l dC dI cA ad hI M_15 (k) (by omega) (2 : Int32) r_17 ) (mkV hts q_327 q_51 q_674 q_325 q_326 hyX2_put rfl rfl ⟨(Nat.le_of_ble_eq_true rfl), (Nat.le_of_ble_eq_true rfl)⟩) (w_recv hK hP (k := 13 + k) (by omega) (lyCr (k := k) (by omega)) (q := (RX2, TX2, 1)) rfl) rfl hl.1 rfl (Nat.le_of_ble_eq_true rfl) dX2_push_16 ⟨(Nat.le_of_ble_eq_true rfl), (Nat.le_of_ble_eq_true rfl)⟩ (fun u H locs hw hP hS _ _ => ?_)
  obtain ⟨M_18, eM_18⟩ : ∃ z, z = u := ⟨_, rfl⟩
  rw [← eM_18] at hP hw
  have gM_18 := hw
  have hv := bnd_name hv hw
  refine lv_iinc (v := 1) (lv' := [(3, .int (1 : Int32)), (0, .ref (ad (13 + k))), (1, .long p0)]) hx hb dX2_push_19 hl (k := 0) rfl (by decide) (by decide) rfl (fun ls hl => ?_)
  refine lv_goto (tgt := 3) hx hb dX2_push_22 (by decide) ?_
  refine lv_iload_n hx hb dX2_push_3 rfl (lv_at hl 0 rfl) ?_
  refine j0_le (tgt := 25) hx hb dX2_push_4 (by decide) (fun _ => ?_) (fun c_19 => absurd (by decide) c_19)
  refine lv_aload_n hx hb dX2_push_7 rfl (lv_at hl 1 rfl) ?_
  refine lv_iload_n hx hb dX2_push_8 rfl (lv_at hl 0 rfl) ?_
  refine lv_aload_n hx hb dX2_push_9 rfl (lv_at hl 1 rfl) ?_
  refine lv_iload_n hx hb dX2_push_10 rfl (lv_at hl 0 rfl) ?_
  refine lv_iconst (v := 1) hx hb dX2_push_11 (by decide) ?_
  refine lv_isub hx hb dX2_push_12 ?_
  refine kVl hx hb hml hown hts hK hP hS hA (As := [.int ((1 : Int32) - (1 : Int32))]) (rest := [.int (1 : Int32), .ref (ad (13 + k))]) (c_X2_get l dC dI cA ad hI M_18 (k) (by omega) ((1 : Int32) - (1 : Int32)) ) (mkV hts q_323 q_51 q_673 q_321 q_322 hyX2_get rfl rfl ⟨(Nat.le_of_ble_eq_true rfl), (Nat.le_of_ble_eq_true rfl)⟩) (w_recv hK hP (k := 13 + k) (by omega) (lyCr (k := k) (by omega)) (q := (RX2, TX2, 1)) rfl) rfl hl.1 rfl (Nat.le_of_ble_eq_true rfl) dX2_push_13 ⟨(Nat.le_of_ble_eq_true rfl), (Nat.le_of_ble_eq_true rfl)⟩ (fun r u H locs hw hP hS _ _ => ?_)
  obtain ⟨hw, hu⟩ := hw
  rw [hu] at hP
  have hv := bnd_name hv hw
  obtain ⟨r_20, er_20⟩ : ∃ z, z = r := ⟨_, rfl⟩
  rw [← er_20] at hv hw
  refine w_eql er_20.symm ?_
  have gr_20 := hw
  refine kVv hx hb hml hown hts hK hP hS hA (As := [.int (1 : Int32), .long r_20]) (rest := []) (c_X2_put l dC dI cA ad hI M_18 (k) (by omega) (1 : Int32) r_20 ) (mkV hts q_327 q_51 q_674 q_325 q_326 hyX2_put rfl rfl ⟨(Nat.le_of_ble_eq_true rfl), (Nat.le_of_ble_eq_true rfl)⟩) (w_recv hK hP (k := 13 + k) (by omega) (lyCr (k := k) (by omega)) (q := (RX2, TX2, 1)) rfl) rfl hl.1 rfl (Nat.le_of_ble_eq_true rfl) dX2_push_16 ⟨(Nat.le_of_ble_eq_true rfl), (Nat.le_of_ble_eq_true rfl)⟩ (fun u H locs hw hP hS _ _ => ?_)
  obtain ⟨M_21, eM_21⟩ : ∃ z, z = u := ⟨_, rfl⟩
  rw [← eM_21] at hP hw
  have gM_21 := hw
  have hv := bnd_name hv hw
  refine lv_iinc (v := 0) (lv' := [(3, .int (0 : Int32)), (0, .ref (ad (13 + k))), (1, .long p0)]) hx hb dX2_push_19 hl (k := 0) rfl (by decide) (by decide) rfl (fun ls hl => ?_)
  refine lv_goto (tgt := 3) hx hb dX2_push_22 (by decide) ?_
  refine lv_iload_n hx hb dX2_push_3 rfl (lv_at hl 0 rfl) ?_
  refine j0_le (tgt := 25) hx hb dX2_push_4 (by decide) (fun c_22 => absurd c_22 (by decide)) (fun _ => ?_)
  refine lv_aload_n hx hb dX2_push_25 rfl (lv_at hl 1 rfl) ?_
  refine lv_iconst (v := 0) hx hb dX2_push_26 (by decide) ?_
  refine lv_lload_n hx hb dX2_push_27 rfl (lv_at hl 2 rfl) ?_
  refine kVv hx hb hml hown hts hK hP hS hA (As := [.int (0 : Int32), .long p0]) (rest := []) (c_X2_put l dC dI cA ad hI M_21 (k) (by omega) (0 : Int32) p0 ) (mkV hts q_327 q_51 q_674 q_325 q_326 hyX2_put rfl rfl ⟨(Nat.le_of_ble_eq_true rfl), (Nat.le_of_ble_eq_true rfl)⟩) (w_recv hK hP (k := 13 + k) (by omega) (lyCr (k := k) (by omega)) (q := (RX2, TX2, 1)) rfl) rfl hl.1 rfl (Nat.le_of_ble_eq_true rfl) dX2_push_28 ⟨(Nat.le_of_ble_eq_true rfl), (Nat.le_of_ble_eq_true rfl)⟩ (fun u H locs hw hP hS _ _ => ?_)
  obtain ⟨M_23, eM_23⟩ : ∃ z, z = u := ⟨_, rfl⟩
  rw [← eM_23] at hP hw
  have gM_23 := hw
  have hv := bnd_name hv hw
  exact W.vret hx hb hr (fun t ht hW => ⟨⟨M_23, rfl, hv.symm.trans eV, by rw [ht]; exact hP, va_K.moved hW.alike hK⟩, hS.F ht⟩) hS.2.2 dX2_push_31
def f_X4_forget (M : Mem) (k : Nat) : Mem := bnd (sI M (11 + 4 * k) (0 : Int32)) fun M_1 => bnd (sI M_1 (12 + 4 * k) (0 : Int32)) fun M_2 => M_2
theorem hyX4_forget : yX4_forget.cls ≠ "java/lang/invoke/MethodHandle" ∧ yX4_forget.cls ≠ "java/lang/invoke/VarHandle" ∧ (parseMethodDescriptor yX4_forget.desc).map (fun d => d.parameters.length) = some 0 := by decide +kernel
set_option maxHeartbeats 4000000 in
set_option maxRecDepth 100000 in
theorem c_X4_forget (l : Launch) (dC : Nat → ClassId) (dI : Nat → Nat → Nat) (cA : Nat → ClassId) (ad : Nat → Nat) (hI : Inj 69 ad) (M : Mem) (k : Nat) (hk : k < 8)  : Met l yX4_forget (.code yX4_forget cX4_forget 1 none :: AG) ({ frames := 0, cells := 0, slots := 0, locals := 0 } : Room) (va_Pc [.ref (ad (5 + k))] (PC dC dI cA ad M)) (va_Qv (fun u => u = f_X4_forget M k) (PC dC dI cA ad) (adS 69 ad)) 0 0 (adS 69 ad) := by
  refine cMet (by decide) (Nat.le_of_ble_eq_true rfl) ?_
  intro p e s m below meth c ls hx hb hr hml hlocks hown hts hK hP hS hl
  have hA : ∀ q, adS 69 ad q → adS 69 ad q := fun _ h => h
  have hl : lv_has ls 1 [(0, .ref (ad (5 + k)))] := hl
  obtain ⟨V, eV⟩ : ∃ z, z = f_X4_forget M k := ⟨_, rfl⟩
  have hv := eV
  unfold f_X4_forget at hv
  refine lv_aload_n hx hb dX4_forget_0 rfl (lv_at hl 0 rfl) ?_
  refine lv_iconst (v := 0) hx hb dX4_forget_1 (by decide) ?_
  refine fp_X4_41 hx hb hts hK hP hI hS hA hown (k := k) (by omega) dX4_forget_2 (fun H locs hP hS => ?_)
  obtain ⟨M_1, eM_1⟩ : ∃ z : Mem, z = sI M (11 + 4 * k) (0 : Int32) := ⟨_, rfl⟩
  rw [← eM_1] at hP
  have hv := bnd_name hv eM_1
  refine lv_aload_n hx hb dX4_forget_5 rfl (lv_at hl 0 rfl) ?_
  refine lv_iconst (v := 0) hx hb dX4_forget_6 (by decide) ?_
  refine fp_X4_44 hx hb hts hK hP hI hS hA hown (k := k) (by omega) dX4_forget_7 (fun H locs hP hS => ?_)
  obtain ⟨M_2, eM_2⟩ : ∃ z : Mem, z = sI M_1 (12 + 4 * k) (0 : Int32) := ⟨_, rfl⟩
  rw [← eM_2] at hP
  have hv := bnd_name hv eM_2
  exact W.vret hx hb hr (fun t ht hW => ⟨⟨M_2, rfl, hv.symm.trans eV, by rw [ht]; exact hP, va_K.moved hW.alike hK⟩, hS.F ht⟩) hS.2.2 dX4_forget_10
def f_X4_settle (M : Mem) (k : Nat) (p0 : Int32) (p1 : Int32) (p2 : Int32) (p3 : Int32) : Mem := bnd (sI M (13 + 4 * k) p0) fun M_1 => bnd (sI M_1 (14 + 4 * k) p1) fun M_2 => bnd (sL M_2 (6 + 2 * k) ((p2).toInt64)) fun M_3 => bnd (sL M_3 (7 + 2 * k) ((p3).toInt64)) fun M_4 => bnd (f_X4_forget M_4 (k) ) fun M_5 => M_5
theorem hyX4_settle : yX4_settle.cls ≠ "java/lang/invoke/MethodHandle" ∧ yX4_settle.cls ≠ "java/lang/invoke/VarHandle" ∧ (parseMethodDescriptor yX4_settle.desc).map (fun d => d.parameters.length) = some 4 := by decide +kernel
set_option maxHeartbeats 4000000 in
set_option maxRecDepth 100000 in
theorem c_X4_settle (l : Launch) (dC : Nat → ClassId) (dI : Nat → Nat → Nat) (cA : Nat → ClassId) (ad : Nat → Nat) (hI : Inj 69 ad) (M : Mem) (k : Nat) (hk : k < 8) (p0 : Int32) (p1 : Int32) (p2 : Int32) (p3 : Int32)  : Met l yX4_settle (.code yX4_settle cX4_settle 5 none :: AG) ({ frames := 1, cells := 0, slots := 0, locals := 20 } : Room) (va_Pc [.ref (ad (5 + k)), .int p0, .int p1, .int p2, .int p3] (PC dC dI cA ad M)) (va_Qv (fun u => u = f_X4_settle M k p0 p1 p2 p3) (PC dC dI cA ad) (adS 69 ad)) 0 0 (adS 69 ad) := by
  refine cMet (by decide) (Nat.le_of_ble_eq_true rfl) ?_
  intro p e s m below meth c ls hx hb hr hml hlocks hown hts hK hP hS hl
  have hA : ∀ q, adS 69 ad q → adS 69 ad q := fun _ h => h
  have hl : lv_has ls 5 [(0, .ref (ad (5 + k))), (1, .int p0), (2, .int p1), (3, .int p2), (4, .int p3)] := hl
  obtain ⟨V, eV⟩ : ∃ z, z = f_X4_settle M k p0 p1 p2 p3 := ⟨_, rfl⟩
  have hv := eV
  unfold f_X4_settle at hv
  refine lv_aload_n hx hb dX4_settle_0 rfl (lv_at hl 0 rfl) ?_
  refine lv_iload_n hx hb dX4_settle_1 rfl (lv_at hl 1 rfl) ?_
  refine fp_X4_24 hx hb hts hK hP hI hS hA hown (k := k) (by omega) dX4_settle_2 (fun H locs hP hS => ?_)
  obtain ⟨M_1, eM_1⟩ : ∃ z : Mem, z = sI M (13 + 4 * k) p0 := ⟨_, rfl⟩
  rw [← eM_1] at hP
  have hv := bnd_name hv eM_1
  refine lv_aload_n hx hb dX4_settle_5 rfl (lv_at hl 0 rfl) ?_
  refine lv_iload_n hx hb dX4_settle_6 rfl (lv_at hl 2 rfl) ?_
  refine fp_X4_28 hx hb hts hK hP hI hS hA hown (k := k) (by omega) dX4_settle_7 (fun H locs hP hS => ?_)
  obtain ⟨M_2, eM_2⟩ : ∃ z : Mem, z = sI M_1 (14 + 4 * k) p1 := ⟨_, rfl⟩
  rw [← eM_2] at hP
  have hv := bnd_name hv eM_2
  refine lv_aload_n hx hb dX4_settle_10 rfl (lv_at hl 0 rfl) ?_
  refine lv_iload_n hx hb dX4_settle_11 rfl (lv_at hl 3 rfl) ?_
  refine lv_i2l (v := (p2).toInt64) hx hb dX4_settle_12 rfl ?_
  refine fp_X4_31 hx hb hts hK hP hI hS hA hown (k := k) (by omega) dX4_settle_13 (fun H locs hP hS => ?_)
  obtain ⟨M_3, eM_3⟩ : ∃ z : Mem, z = sL M_2 (6 + 2 * k) ((p2).toInt64) := ⟨_, rfl⟩
  rw [← eM_3] at hP
  have hv := bnd_name hv eM_3
  refine lv_aload_n hx hb dX4_settle_16 rfl (lv_at hl 0 rfl) ?_
  refine lv_iload hx hb dX4_settle_17 (lv_at hl 4 rfl) ?_
  refine lv_i2l (v := (p3).toInt64) hx hb dX4_settle_19 rfl ?_
  refine fp_X4_35 hx hb hts hK hP hI hS hA hown (k := k) (by omega) dX4_settle_20 (fun H locs hP hS => ?_)
  obtain ⟨M_4, eM_4⟩ : ∃ z : Mem, z = sL M_3 (7 + 2 * k) ((p3).toInt64) := ⟨_, rfl⟩
  rw [← eM_4] at hP
  have hv := bnd_name hv eM_4
  refine lv_aload_n hx hb dX4_settle_23 rfl (lv_at hl 0 rfl) ?_
  refine kVv hx hb hml hown hts hK hP hS hA (As := []) (rest := []) (c_X4_forget l dC dI cA ad hI M_4 (k) (by omega)  ) (mkV hts q_613 q_52 q_610 q_611 q_612 hyX4_forget rfl rfl ⟨(Nat.le_of_ble_eq_true rfl), (Nat.le_of_ble_eq_true rfl)⟩) (w_recv hK hP (k := 5 + k) (by omega) (lyCs (k := k) (by omega)) (q := (RX4, TX4, 9)) rfl) rfl hl.1 rfl (Nat.le_of_ble_eq_true rfl) dX4_settle_24 ⟨(Nat.le_of_ble_eq_true rfl), (Nat.le_of_ble_eq_true rfl)⟩ (fun u H locs hw hP hS _ _ => ?_)
  obtain ⟨M_5, eM_5⟩ : ∃ z, z = u := ⟨_, rfl⟩
  rw [← eM_5] at hP hw
  have gM_5 := hw
  have hv := bnd_name hv hw
  exact W.vret hx hb hr (fun t ht hW => ⟨⟨M_5, rfl, hv.symm.trans eV, by rw [ht]; exact hP, va_K.moved hW.alike hK⟩, hS.F ht⟩) hS.2.2 dX4_settle_27
def f_X4_kept (M : Mem) (k : Nat) : Int32 := gI M (11 + 4 * k)
theorem hyX4_kept : yX4_kept.cls ≠ "java/lang/invoke/MethodHandle" ∧ yX4_kept.cls ≠ "java/lang/invoke/VarHandle" ∧ (parseMethodDescriptor yX4_kept.desc).map (fun d => d.parameters.length) = some 0 := by decide +kernel
set_option maxHeartbeats 4000000 in
set_option maxRecDepth 100000 in
theorem c_X4_kept (l : Launch) (dC : Nat → ClassId) (dI : Nat → Nat → Nat) (cA : Nat → ClassId) (ad : Nat → Nat) (hI : Inj 69 ad) (M : Mem) (k : Nat) (hk : k < 8)  : Met l yX4_kept (.code yX4_kept cX4_kept 1 (some .int) :: AG) ({ frames := 0, cells := 0, slots := 0, locals := 0 } : Room) (va_Pc [.ref (ad (5 + k))] (PC dC dI cA ad M)) (va_Qi (fun r u => r = f_X4_kept M k ∧ u = M) (PC dC dI cA ad) (adS 69 ad)) 0 0 (adS 69 ad) := by
  refine cMet (by decide) (Nat.le_of_ble_eq_true rfl) ?_
  intro p e s m below meth c ls hx hb hr hml hlocks hown hts hK hP hS hl
  have hA : ∀ q, adS 69 ad q → adS 69 ad q := fun _ h => h
  have hl : lv_has ls 1 [(0, .ref (ad (5 + k)))] := hl
  obtain ⟨V, eV⟩ : ∃ z, z = f_X4_kept M k := ⟨_, rfl⟩
  have hv := eV
  unfold f_X4_kept at hv
  refine lv_aload_n hx hb dX4_kept_0 rfl (lv_at hl 0 rfl) ?_
  refine fg_X4_41 hx hb hts hK hP hown (k := k) (by omega) dX4_kept_1 ?_
  exact W.iret (v := gI M (11 + 4 * k)) hx hb hr (fun t ht hW => ⟨⟨_, M, rfl, ⟨hv.symm.trans eV, rfl⟩, by rw [ht]; exact hP, va_K.moved hW.alike hK⟩, hS.F ht⟩) hS.2.2 dX4_kept_4
def f_X4_ownStratum (M : Mem) (k : Nat) : Int32 := gI M (13 + 4 * k)
theorem hyX4_ownStratum : yX4_ownStratum.cls ≠ "java/lang/invoke/MethodHandle" ∧ yX4_ownStratum.cls ≠ "java/lang/invoke/VarHandle" ∧ (parseMethodDescriptor yX4_ownStratum.desc).map (fun d => d.parameters.length) = some 0 := by decide +kernel
set_option maxHeartbeats 4000000 in
set_option maxRecDepth 100000 in
theorem c_X4_ownStratum (l : Launch) (dC : Nat → ClassId) (dI : Nat → Nat → Nat) (cA : Nat → ClassId) (ad : Nat → Nat) (hI : Inj 69 ad) (M : Mem) (k : Nat) (hk : k < 8)  : Met l yX4_ownStratum (.code yX4_ownStratum cX4_ownStratum 1 (some .int) :: AG) ({ frames := 0, cells := 0, slots := 0, locals := 0 } : Room) (va_Pc [.ref (ad (5 + k))] (PC dC dI cA ad M)) (va_Qi (fun r u => r = f_X4_ownStratum M k ∧ u = M) (PC dC dI cA ad) (adS 69 ad)) 0 0 (adS 69 ad) := by
  refine cMet (by decide) (Nat.le_of_ble_eq_true rfl) ?_
  intro p e s m below meth c ls hx hb hr hml hlocks hown hts hK hP hS hl
  have hA : ∀ q, adS 69 ad q → adS 69 ad q := fun _ h => h
  have hl : lv_has ls 1 [(0, .ref (ad (5 + k)))] := hl
  obtain ⟨V, eV⟩ : ∃ z, z = f_X4_ownStratum M k := ⟨_, rfl⟩
  have hv := eV
  unfold f_X4_ownStratum at hv
  refine lv_aload_n hx hb dX4_ownStratum_0 rfl (lv_at hl 0 rfl) ?_
  refine fg_X4_24 hx hb hts hK hP hown (k := k) (by omega) dX4_ownStratum_1 ?_
  exact W.iret (v := gI M (13 + 4 * k)) hx hb hr (fun t ht hW => ⟨⟨_, M, rfl, ⟨hv.symm.trans eV, rfl⟩, by rw [ht]; exact hP, va_K.moved hW.alike hK⟩, hS.F ht⟩) hS.2.2 dX4_ownStratum_4
def f_X4_changeError (M : Mem) (k : Nat) (p0 : Int32) : Int32 × Mem := bnd (gI M (14 + 4 * k)) fun x_1 => bnd (sI M (14 + 4 * k) p0) fun M_2 => (x_1, M_2)
theorem hyX4_changeError : yX4_changeError.cls ≠ "java/lang/invoke/MethodHandle" ∧ yX4_changeError.cls ≠ "java/lang/invoke/VarHandle" ∧ (parseMethodDescriptor yX4_changeError.desc).map (fun d => d.parameters.length) = some 1 := by decide +kernel
set_option maxHeartbeats 4000000 in
set_option maxRecDepth 100000 in
theorem c_X4_changeError (l : Launch) (dC : Nat → ClassId) (dI : Nat → Nat → Nat) (cA : Nat → ClassId) (ad : Nat → Nat) (hI : Inj 69 ad) (M : Mem) (k : Nat) (hk : k < 8) (p0 : Int32)  : Met l yX4_changeError (.code yX4_changeError cX4_changeError 3 (some .int) :: AG) ({ frames := 0, cells := 0, slots := 0, locals := 0 } : Room) (va_Pc [.ref (ad (5 + k)), .int p0] (PC dC dI cA ad M)) (va_Qi (fun r u => (r, u) = f_X4_changeError M k p0) (PC dC dI cA ad) (adS 69 ad)) 0 0 (adS 69 ad) := by
  refine cMet (by decide) (Nat.le_of_ble_eq_true rfl) ?_
  intro p e s m below meth c ls hx hb hr hml hlocks hown hts hK hP hS hl
  have hA : ∀ q, adS 69 ad q → adS 69 ad q := fun _ h => h
  have hl : lv_has ls 3 [(0, .ref (ad (5 + k))), (1, .int p0)] := hl
  obtain ⟨V, eV⟩ : ∃ z, z = f_X4_changeError M k p0 := ⟨_, rfl⟩
  have hv := eV
  unfold f_X4_changeError at hv
  refine lv_aload_n hx hb dX4_changeError_0 rfl (lv_at hl 0 rfl) ?_
  refine fg_X4_28 hx hb hts hK hP hown (k := k) (by omega) dX4_changeError_1 ?_
  refine lv_topi (fun x_1 ex_1 => ?_)
  have hv := bnd_name hv ex_1
  refine lv_istore_n (lv' := [(2, .int x_1), (0, .ref (ad (5 + k))), (1, .int p0)]) hx hb dX4_changeError_4 rfl hl (by decide) rfl (fun ls hl => ?_)
  refine lv_aload_n hx hb dX4_changeError_5 rfl (lv_at hl 1 rfl) ?_
  refine lv_iload_n hx hb dX4_changeError_6 rfl (lv_at hl 2 rfl) ?_
  refine fp_X4_28 hx hb hts hK hP hI hS hA hown (k := k) (by omega) dX4_changeError_7 (fun H locs hP hS => ?_)
  obtain ⟨M_2, eM_2⟩ : ∃ z : Mem, z = sI M (14 + 4 * k) p0 := ⟨_, rfl⟩
  rw [← eM_2] at hP
  have hv := bnd_name hv eM_2
  refine lv_iload_n hx hb dX4_changeError_10 rfl (lv_at hl 0 rfl) ?_
  exact W.iret (v := x_1) hx hb hr (fun t ht hW => ⟨⟨_, M_2, rfl, hv.symm.trans eV, by rw [ht]; exact hP, va_K.moved hW.alike hK⟩, hS.F ht⟩) hS.2.2 dX4_changeError_11
def f_X4_readingAt (M : Mem) (k : Nat) (p0 : Int64) : Int64 := (p0 + (gI M (14 + 4 * k)).toInt64)
theorem hyX4_readingAt : yX4_readingAt.cls ≠ "java/lang/invoke/MethodHandle" ∧ yX4_readingAt.cls ≠ "java/lang/invoke/VarHandle" ∧ (parseMethodDescriptor yX4_readingAt.desc).map (fun d => d.parameters.length) = some 1 := by decide +kernel
set_option maxHeartbeats 4000000 in
set_option maxRecDepth 100000 in
theorem c_X4_readingAt (l : Launch) (dC : Nat → ClassId) (dI : Nat → Nat → Nat) (cA : Nat → ClassId) (ad : Nat → Nat) (hI : Inj 69 ad) (M : Mem) (k : Nat) (hk : k < 8) (p0 : Int64)  : Met l yX4_readingAt (.code yX4_readingAt cX4_readingAt 3 (some .long) :: AG) ({ frames := 0, cells := 0, slots := 0, locals := 0 } : Room) (va_Pc [.ref (ad (5 + k)), .long p0] (PC dC dI cA ad M)) (va_Ql (fun r u => r = f_X4_readingAt M k p0 ∧ u = M) (PC dC dI cA ad) (adS 69 ad)) 0 0 (adS 69 ad) := by
  refine cMet (by decide) (Nat.le_of_ble_eq_true rfl) ?_
  intro p e s m below meth c ls hx hb hr hml hlocks hown hts hK hP hS hl
  have hA : ∀ q, adS 69 ad q → adS 69 ad q := fun _ h => h
  have hl : lv_has ls 3 [(0, .ref (ad (5 + k))), (1, .long p0)] := hl
  obtain ⟨V, eV⟩ : ∃ z, z = f_X4_readingAt M k p0 := ⟨_, rfl⟩
  have hv := eV
  unfold f_X4_readingAt at hv
  refine lv_lload_n hx hb dX4_readingAt_0 rfl (lv_at hl 1 rfl) ?_
  refine lv_aload_n hx hb dX4_readingAt_1 rfl (lv_at hl 0 rfl) ?_
  refine fg_X4_28 hx hb hts hK hP hown (k := k) (by omega) dX4_readingAt_2 ?_
  refine lv_i2l (v := (gI M (14 + 4 * k)).toInt64) hx hb dX4_readingAt_5 rfl ?_
  refine lv_ladd hx hb dX4_readingAt_6 ?_
  exact W.lret (v := (p0 + (gI M (14 + 4 * k)).toInt64)) hx hb hr (fun t ht hW => ⟨⟨_, M, rfl, ⟨hv.symm.trans eV, rfl⟩, by rw [ht]; exact hP, va_K.moved hW.alike hK⟩, hS.F ht⟩) hS.2.2 dX4_readingAt_7
def f_X4_bestOffset (M : Mem) (k : Nat) : Int64 := bnd (f_X2_get M ((4 + 3 * k)) (gI M (12 + 4 * k))) fun r_1 => r_1
theorem hyX4_bestOffset : yX4_bestOffset.cls ≠ "java/lang/invoke/MethodHandle" ∧ yX4_bestOffset.cls ≠ "java/lang/invoke/VarHandle" ∧ (parseMethodDescriptor yX4_bestOffset.desc).map (fun d => d.parameters.length) = some 0 := by decide +kernel
set_option maxHeartbeats 4000000 in
set_option maxRecDepth 100000 in
theorem c_X4_bestOffset (l : Launch) (dC : Nat → ClassId) (dI : Nat → Nat → Nat) (cA : Nat → ClassId) (ad : Nat → Nat) (hI : Inj 69 ad) (M : Mem) (k : Nat) (hk : k < 8)  : Met l yX4_bestOffset (.code yX4_bestOffset cX4_bestOffset 1 (some .long) :: AG) ({ frames := 1, cells := 0, slots := 0, locals := 21 } : Room) (va_Pc [.ref (ad (5 + k))] (PC dC dI cA ad M)) (va_Ql (fun r u => r = f_X4_bestOffset M k ∧ u = M) (PC dC dI cA ad) (adS 69 ad)) 0 0 (adS 69 ad) := by
  refine cMet (by decide) (Nat.le_of_ble_eq_true rfl) ?_
  intro p e s m below meth c ls hx hb hr hml hlocks hown hts hK hP hS hl
  have hA : ∀ q, adS 69 ad q → adS 69 ad q := fun _ h => h
  have hl : lv_has ls 1 [(0, .ref (ad (5 + k)))] := hl
  obtain ⟨V, eV⟩ : ∃ z, z = f_X4_bestOffset M k := ⟨_, rfl⟩
  have hv := eV
  unfold f_X4_bestOffset at hv
  refine lv_aload_n hx hb dX4_bestOffset_0 rfl (lv_at hl 0 rfl) ?_
  refine fg_X4_12 hx hb hts hK hP hown (k := k) (by omega) dX4_bestOffset_1 ?_
  refine lv_aload_n hx hb dX4_bestOffset_4 rfl (lv_at hl 0 rfl) ?_
  refine fg_X4_44 hx hb hts hK hP hown (k := k) (by omega) dX4_bestOffset_5 ?_
  refine kVl hx hb hml hown hts hK hP hS hA (As := [.int (gI M (12 + 4 * k))]) (rest := []) (c_X2_get l dC dI cA ad hI M ((4 + 3 * k)) (by omega) (gI M (12 + 4 * k)) ) (mkV hts q_323 q_51 q_320 q_321 q_322 hyX2_get rfl rfl ⟨(Nat.le_of_ble_eq_true rfl), (Nat.le_of_ble_eq_true rfl)⟩) (w_recv hK hP (k := 13 + (4 + 3 * k)) (by omega) (lyCr (k := (4 + 3 * k)) (by omega)) (q := (RX2, TX2, 1)) rfl) rfl hl.1 rfl (Nat.le_of_ble_eq_true rfl) dX4_bestOffset_8 ⟨(Nat.le_of_ble_eq_true rfl), (Nat.le_of_ble_eq_true rfl)⟩ (fun r u H locs hw hP hS _ _ => ?_)
  obtain ⟨hw, hu⟩ := hw
  rw [hu] at hP
  have hv := bnd_name hv hw
  obtain ⟨r_1, er_1⟩ : ∃ z, z = r := ⟨_, rfl⟩
  rw [← er_1] at hv hw
  refine w_eql er_1.symm ?_
  have gr_1 := hw
  exact W.lret (v := r_1) hx hb hr (fun t ht hW => ⟨⟨_, M, rfl, ⟨hv.symm.trans eV, rfl⟩, by rw [ht]; exact hP, va_K.moved hW.alike hK⟩, hS.F ht⟩) hS.2.2 dX4_bestOffset_11
def f_X4_bestDelay (M : Mem) (k : Nat) : Int64 := bnd (f_X2_get M ((5 + 3 * k)) (gI M (12 + 4 * k))) fun r_1 => r_1
theorem hyX4_bestDelay : yX4_bestDelay.cls ≠ "java/lang/invoke/MethodHandle" ∧ yX4_bestDelay.cls ≠ "java/lang/invoke/VarHandle" ∧ (parseMethodDescriptor yX4_bestDelay.desc).map (fun d => d.parameters.length) = some 0 := by decide +kernel
set_option maxHeartbeats 4000000 in
set_option maxRecDepth 100000 in
theorem c_X4_bestDelay (l : Launch) (dC : Nat → ClassId) (dI : Nat → Nat → Nat) (cA : Nat → ClassId) (ad : Nat → Nat) (hI : Inj 69 ad) (M : Mem) (k : Nat) (hk : k < 8)  : Met l yX4_bestDelay (.code yX4_bestDelay cX4_bestDelay 1 (some .long) :: AG) ({ frames := 1, cells := 0, slots := 0, locals := 21 } : Room) (va_Pc [.ref (ad (5 + k))] (PC dC dI cA ad M)) (va_Ql (fun r u => r = f_X4_bestDelay M k ∧ u = M) (PC dC dI cA ad) (adS 69 ad)) 0 0 (adS 69 ad) := by
  refine cMet (by decide) (Nat.le_of_ble_eq_true rfl) ?_
  intro p e s m below meth c ls hx hb hr hml hlocks hown hts hK hP hS hl
  have hA : ∀ q, adS 69 ad q → adS 69 ad q := fun _ h => h
  have hl : lv_has ls 1 [(0, .ref (ad (5 + k)))] := hl
  obtain ⟨V, eV⟩ : ∃ z, z = f_X4_bestDelay M k := ⟨_, rfl⟩
  have hv := eV
  unfold f_X4_bestDelay at hv
  refine lv_aload_n hx hb dX4_bestDelay_0 rfl (lv_at hl 0 rfl) ?_
  refine fg_X4_18 hx hb hts hK hP hown (k := k) (by omega) dX4_bestDelay_1 ?_
  refine lv_aload_n hx hb dX4_bestDelay_4 rfl (lv_at hl 0 rfl) ?_
  refine fg_X4_44 hx hb hts hK hP hown (k := k) (by omega) dX4_bestDelay_5 ?_
  refine kVl hx hb hml hown hts hK hP hS hA (As := [.int (gI M (12 + 4 * k))]) (rest := []) (c_X2_get l dC dI cA ad hI M ((5 + 3 * k)) (by omega) (gI M (12 + 4 * k)) ) (mkV hts q_323 q_51 q_320 q_321 q_322 hyX2_get rfl rfl ⟨(Nat.le_of_ble_eq_true rfl), (Nat.le_of_ble_eq_true rfl)⟩) (w_recv hK hP (k := 13 + (5 + 3 * k)) (by omega) (lyCr (k := (5 + 3 * k)) (by omega)) (q := (RX2, TX2, 1)) rfl) rfl hl.1 rfl (Nat.le_of_ble_eq_true rfl) dX4_bestDelay_8 ⟨(Nat.le_of_ble_eq_true rfl), (Nat.le_of_ble_eq_true rfl)⟩ (fun r u H locs hw hP hS _ _ => ?_)
  obtain ⟨hw, hu⟩ := hw
  rw [hu] at hP
  have hv := bnd_name hv hw
  obtain ⟨r_1, er_1⟩ : ∃ z, z = r := ⟨_, rfl⟩
  rw [← er_1] at hv hw
  refine w_eql er_1.symm ?_
  have gr_1 := hw
  exact W.lret (v := r_1) hx hb hr (fun t ht hW => ⟨⟨_, M, rfl, ⟨hv.symm.trans eV, rfl⟩, by rw [ht]; exact hP, va_K.moved hW.alike hK⟩, hS.F ht⟩) hS.2.2 dX4_bestDelay_11
def f_X4_leastDelay_L4 (M : Mem) (k : Nat) : Nat → Nat → Int32 → Int32
  | 0, _, _ => 0
  | r + 1, i, y1_4 => if nI i < gI M (11 + 4 * k) then bnd (f_X2_get M ((5 + 3 * k)) (nI i)) fun r_2 => bnd (f_X2_get M ((5 + 3 * k)) y1_4) fun r_3 => if r_2 < r_3 then f_X4_leastDelay_L4 M k r (i + 1) (nI i) else f_X4_leastDelay_L4 M k r (i + 1) y1_4 else y1_4
def f_X4_leastDelay (M : Mem) (k : Nat) : Int32 := f_X4_leastDelay_L4 M k ((max (gI M (11 + 4 * k)).toNatClampNeg 1) + 1 - 1) 1 (0 : Int32)
theorem hyX4_leastDelay : yX4_leastDelay.cls ≠ "java/lang/invoke/MethodHandle" ∧ yX4_leastDelay.cls ≠ "java/lang/invoke/VarHandle" ∧ (parseMethodDescriptor yX4_leastDelay.desc).map (fun d => d.parameters.length) = some 0 := by decide +kernel
set_option maxHeartbeats 4000000 in
set_option maxRecDepth 100000 in
theorem c_X4_leastDelay (l : Launch) (dC : Nat → ClassId) (dI : Nat → Nat → Nat) (cA : Nat → ClassId) (ad : Nat → Nat) (hI : Inj 69 ad) (M : Mem) (k : Nat) (hk : k < 8)  : Met l yX4_leastDelay (.code yX4_leastDelay cX4_leastDelay 3 (some .int) :: AG) ({ frames := 1, cells := 0, slots := 0, locals := 21 } : Room) (va_Pc [.ref (ad (5 + k))] (PC dC dI cA ad M)) (va_Qi (fun r u => r = f_X4_leastDelay M k ∧ u = M) (PC dC dI cA ad) (adS 69 ad)) 0 0 (adS 69 ad) := by
  refine cMet (by decide) (Nat.le_of_ble_eq_true rfl) ?_
  intro p e s m below meth c ls hx hb hr hml hlocks hown hts hK hP hS hl
  have hA : ∀ q, adS 69 ad q → adS 69 ad q := fun _ h => h
  have hl : lv_has ls 3 [(0, .ref (ad (5 + k)))] := hl
  obtain ⟨V, eV⟩ : ∃ z, z = f_X4_leastDelay M k := ⟨_, rfl⟩
  have hv := eV
  unfold f_X4_leastDelay at hv
  refine lv_iconst (v := 0) hx hb dX4_leastDelay_0 (by decide) ?_
  refine lv_istore_n (lv' := [(1, .int (0 : Int32)), (0, .ref (ad (5 + k)))]) hx hb dX4_leastDelay_1 rfl hl (by decide) rfl (fun ls hl => ?_)
  refine lv_iconst (v := 1) hx hb dX4_leastDelay_2 (by decide) ?_
  refine lv_istore_n (lv' := [(2, .int (1 : Int32)), (1, .int (0 : Int32)), (0, .ref (ad (5 + k)))]) hx hb dX4_leastDelay_3 rfl hl (by decide) rfl (fun ls hl => ?_)
  have L4 : ∀ (r i : Nat) (y1_4 : Int32) (H : Heap) (locs : List Loc) (ls : Array Slot), i + r = (max (gI M (11 + 4 * k)).toNatClampNeg 1) + 1 → i ≤ (max (gI M (11 + 4 * k)).toNatClampNeg 1) → V = f_X4_leastDelay_L4 M k r i y1_4 → va_P (dC, dI) vwCl (wld 69 layC cA ad M) H → va_S (adS 69 ad) s.heap H locs → lv_has ls 3 [(2, .int (nI i)), (1, .int y1_4), (0, .ref (ad (5 + k)))] → W p l e ({ frames := 1, cells := 0, slots := 0, locals := 21 } : Room) s m ([.ref (ad (5 + k))] : List Value).toArray below meth c H locs 0 0 (MQ below (va_Qi (fun r u => r = f_X4_leastDelay M k ∧ u = M) (PC dC dI cA ad) (adS 69 ad)) ([.ref (ad (5 + k))] : List Value).toArray s 0 0 (adS 69 ad)) (F0 m 4 ls []) := by
    intro r
    induction r with
    | zero =>
      intro i y1_4 H locs ls hir hib
      omega
    | succ r ih =>
      intro i y1_4 H locs ls hir hib hv hP hS hl
      rw [f_X4_leastDelay_L4] at hv
      have hcn := cn_lt (gI M (11 + 4 * k))
      refine lv_iload_n hx hb dX4_leastDelay_4 rfl (lv_at hl 0 rfl) ?_
      refine lv_aload_n hx hb dX4_leastDelay_5 rfl (lv_at hl 2 rfl) ?_
      refine fg_X4_41 hx hb hts hK hP hown (k := k) (by omega) dX4_leastDelay_6 ?_
      refine jI_ge (tgt := 40) hx hb dX4_leastDelay_9 (by decide) (fun c_1 => ?_) (fun c_1 => ?_)
      · have hv := hv.trans (if_pos c_1)
        have hc_1 : i < (gI M (11 + 4 * k)).toNatClampNeg := nI_lt1 c_1 (by have := cn_lt (gI M (11 + 4 * k)); omega)
        refine lv_aload_n hx hb dX4_leastDelay_12 rfl (lv_at hl 2 rfl) ?_
        refine fg_X4_18 hx hb hts hK hP hown (k := k) (by omega) dX4_leastDelay_13 ?_
        refine lv_iload_n hx hb dX4_leastDelay_16 rfl (lv_at hl 0 rfl) ?_
        refine kVl hx hb hml hown hts hK hP hS hA (As := [.int (nI i)]) (rest := []) (c_X2_get l dC dI cA ad hI M ((5 + 3 * k)) (by omega) (nI i) ) (mkV hts q_323 q_51 q_320 q_321 q_322 hyX2_get rfl rfl ⟨(Nat.le_of_ble_eq_true rfl), (Nat.le_of_ble_eq_true rfl)⟩) (w_recv hK hP (k := 13 + (5 + 3 * k)) (by omega) (lyCr (k := (5 + 3 * k)) (by omega)) (q := (RX2, TX2, 1)) rfl) rfl hl.1 rfl (Nat.le_of_ble_eq_true rfl) dX4_leastDelay_17 ⟨(Nat.le_of_ble_eq_true rfl), (Nat.le_of_ble_eq_true rfl)⟩ (fun r u H locs hw hP hS _ _ => ?_)
        obtain ⟨hw, hu⟩ := hw
        rw [hu] at hP
        have hv := bnd_name hv hw
        obtain ⟨r_2, er_2⟩ : ∃ z, z = r := ⟨_, rfl⟩
        rw [← er_2] at hv hw
        refine w_eql er_2.symm ?_
        have gr_2 := hw
        refine lv_aload_n hx hb dX4_leastDelay_20 rfl (lv_at hl 2 rfl) ?_
        refine fg_X4_18 hx hb hts hK hP hown (k := k) (by omega) dX4_leastDelay_21 ?_
        refine lv_iload_n hx hb dX4_leastDelay_24 rfl (lv_at hl 1 rfl) ?_
        refine kVl hx hb hml hown hts hK hP hS hA (As := [.int y1_4]) (rest := [.long r_2]) (c_X2_get l dC dI cA ad hI M ((5 + 3 * k)) (by omega) y1_4 ) (mkV hts q_323 q_51 q_320 q_321 q_322 hyX2_get rfl rfl ⟨(Nat.le_of_ble_eq_true rfl), (Nat.le_of_ble_eq_true rfl)⟩) (w_recv hK hP (k := 13 + (5 + 3 * k)) (by omega) (lyCr (k := (5 + 3 * k)) (by omega)) (q := (RX2, TX2, 1)) rfl) rfl hl.1 rfl (Nat.le_of_ble_eq_true rfl) dX4_leastDelay_25 ⟨(Nat.le_of_ble_eq_true rfl), (Nat.le_of_ble_eq_true rfl)⟩ (fun r u H locs hw hP hS _ _ => ?_)
        obtain ⟨hw, hu⟩ := hw
        rw [hu] at hP
        have hv := bnd_name hv hw
        obtain ⟨r_3, er_3⟩ : ∃ z, z = r := ⟨_, rfl⟩
        rw [← er_3] at hv hw
        refine w_eql er_3.symm ?_
        have gr_3 := hw
        refine jL_ge (tgt := 34) hx hb dX4_leastDelay_28 dX4_leastDelay_29 (by decide) (fun c_4 => ?_) (fun c_4 => ?_)
        · have hv := hv.trans (if_pos c_4)
          refine lv_iload_n hx hb dX4_leastDelay_32 rfl (lv_at hl 0 rfl) ?_
          refine lv_istore_n (lv' := [(1, .int (nI i)), (2, .int (nI i)), (0, .ref (ad (5 + k)))]) hx hb dX4_leastDelay_33 rfl hl (by decide) rfl (fun ls hl => ?_)
          refine lv_iinc (v := nI (i + 1)) (lv' := [(2, .int (nI (i + 1))), (1, .int (nI i)), (0, .ref (ad (5 + k)))]) hx hb dX4_leastDelay_34 hl (k := 1) rfl (show nI (i) + 1 = nI (i + 1) from nI_1 _) (by decide) rfl (fun ls hl => ?_)
          refine lv_goto (tgt := 4) hx hb dX4_leastDelay_37 (by decide) ?_
          exact ih (i + 1) (nI i) _ _ _ (by omega) (by omega)  hv hP hS (lv_sub hl [0, 1, 2] rfl)
        · have hv := hv.trans (if_neg c_4)
          refine lv_iinc (v := nI (i + 1)) (lv' := [(2, .int (nI (i + 1))), (1, .int y1_4), (0, .ref (ad (5 + k)))]) hx hb dX4_leastDelay_34 hl (k := 0) rfl (show nI (i) + 1 = nI (i + 1) from nI_1 _) (by decide) rfl (fun ls hl => ?_)
          refine lv_goto (tgt := 4) hx hb dX4_leastDelay_37 (by decide) ?_
          exact ih (i + 1) y1_4 _ _ _ (by omega) (by omega)  hv hP hS (lv_sub hl [0, 1, 2] rfl)
      · have hv := hv.trans (if_neg c_1)
        refine lv_iload_n hx hb dX4_leastDelay_40 rfl (lv_at hl 1 rfl) ?_
        exact W.iret (v := y1_4) hx hb hr (fun t ht hW => ⟨⟨_, M, rfl, ⟨hv.symm.trans eV, rfl⟩, by rw [ht]; exact hP, va_K.moved hW.alike hK⟩, hS.F ht⟩) hS.2.2 dX4_leastDelay_41
  exact L4 ((max (gI M (11 + 4 * k)).toNatClampNeg 1) + 1 - 1) 1 (0 : Int32) _ _ _ (by omega) (by omega)  hv hP hS (lv_sub hl [0, 1, 2] rfl)
def f_X4_keep (M : Mem) (k : Nat) (p0 : Int64) (p1 : Int64) (p2 : Int64) : Mem := bnd (f_X2_push M ((4 + 3 * k)) p0) fun M_1 => bnd (f_X2_push M_1 ((5 + 3 * k)) p1) fun M_2 => bnd (f_X2_push M_2 ((6 + 3 * k)) p2) fun M_3 => bnd ((if (8 : Int32) < (gI M_3 (11 + 4 * k) + (1 : Int32)) then (8 : Int32) else (gI M_3 (11 + 4 * k) + (1 : Int32)))) fun x_4 => bnd (sI M_3 (11 + 4 * k) x_4) fun M_5 => bnd (f_X4_leastDelay M_5 (k) ) fun r_6 => bnd (sI M_5 (12 + 4 * k) r_6) fun M_7 => M_7
theorem hyX4_keep : yX4_keep.cls ≠ "java/lang/invoke/MethodHandle" ∧ yX4_keep.cls ≠ "java/lang/invoke/VarHandle" ∧ (parseMethodDescriptor yX4_keep.desc).map (fun d => d.parameters.length) = some 3 := by decide +kernel
set_option maxHeartbeats 4000000 in
set_option maxRecDepth 100000 in
theorem c_X4_keep (l : Launch) (dC : Nat → ClassId) (dI : Nat → Nat → Nat) (cA : Nat → ClassId) (ad : Nat → Nat) (hI : Inj 69 ad) (M : Mem) (k : Nat) (hk : k < 8) (p0 : Int64) (p1 : Int64) (p2 : Int64)  : Met l yX4_keep (.code yX4_keep cX4_keep 7 none :: AG) ({ frames := 2, cells := 0, slots := 0, locals := 46 } : Room) (va_Pc [.ref (ad (5 + k)), .long p0, .long p1, .long p2] (PC dC dI cA ad M)) (va_Qv (fun u => u = f_X4_keep M k p0 p1 p2) (PC dC dI cA ad) (adS 69 ad)) 0 0 (adS 69 ad) := by
  refine cMet (by decide) (Nat.le_of_ble_eq_true rfl) ?_
  intro p e s m below meth c ls hx hb hr hml hlocks hown hts hK hP hS hl
  have hA : ∀ q, adS 69 ad q → adS 69 ad q := fun _ h => h
  have hl : lv_has ls 7 [(0, .ref (ad (5 + k))), (1, .long p0), (3, .long p1), (5, .long p2)] := hl
  obtain ⟨V, eV⟩ : ∃ z, z = f_X4_keep M k p0 p1 p2 := ⟨_, rfl⟩
  have hv := eV
  unfold f_X4_keep at hv
  refine lv_aload_n hx hb dX4_keep_0 rfl (lv_at hl 0 rfl) ?_
  refine fg_X4_12 hx hb hts hK hP hown (k := k) (by omega) dX4_keep_1 ?_
  refine lv_lload_n hx hb dX4_keep_4 rfl (lv_at hl 1 rfl) ?_
  refine kVv hx hb hml hown hts hK hP hS hA (As := [.long p0]) (rest := []) (c_X2_push l dC dI cA ad hI M ((4 + 3 * k)) (by omega) p0 ) (mkV hts q_672 q_51 q_669 q_670 q_671 hyX2_push rfl rfl ⟨(Nat.le_of_ble_eq_true rfl), (Nat.le_of_ble_eq_true rfl)⟩) (w_recv hK hP (k := 13 + (4 + 3 * k)) (by omega) (lyCr (k := (4 + 3 * k)) (by omega)) (q := (RX2, TX2, 1)) rfl) rfl hl.1 rfl (Nat.le_of_ble_eq_true rfl) dX4_keep_5 ⟨(Nat.le_of_ble_eq_true rfl), (Nat.le_of_ble_eq_true rfl)⟩ (fun u H locs hw hP hS _ _ => ?_)
  obtain ⟨M_1, eM_1⟩ : ∃ z, z = u := ⟨_, rfl⟩
  rw [← eM_1] at hP hw
  have gM_1 := hw
  have hv := bnd_name hv hw
  refine lv_aload_n hx hb dX4_keep_8 rfl (lv_at hl 0 rfl) ?_
  refine fg_X4_18 hx hb hts hK hP hown (k := k) (by omega) dX4_keep_9 ?_
  refine lv_lload_n hx hb dX4_keep_12 rfl (lv_at hl 2 rfl) ?_
  refine kVv hx hb hml hown hts hK hP hS hA (As := [.long p1]) (rest := []) (c_X2_push l dC dI cA ad hI M_1 ((5 + 3 * k)) (by omega) p1 ) (mkV hts q_672 q_51 q_669 q_670 q_671 hyX2_push rfl rfl ⟨(Nat.le_of_ble_eq_true rfl), (Nat.le_of_ble_eq_true rfl)⟩) (w_recv hK hP (k := 13 + (5 + 3 * k)) (by omega) (lyCr (k := (5 + 3 * k)) (by omega)) (q := (RX2, TX2, 1)) rfl) rfl hl.1 rfl (Nat.le_of_ble_eq_true rfl) dX4_keep_13 ⟨(Nat.le_of_ble_eq_true rfl), (Nat.le_of_ble_eq_true rfl)⟩ (fun u H locs hw hP hS _ _ => ?_)
  obtain ⟨M_2, eM_2⟩ : ∃ z, z = u := ⟨_, rfl⟩
  rw [← eM_2] at hP hw
  have gM_2 := hw
  have hv := bnd_name hv hw
  refine lv_aload_n hx hb dX4_keep_16 rfl (lv_at hl 0 rfl) ?_
  refine fg_X4_21 hx hb hts hK hP hown (k := k) (by omega) dX4_keep_17 ?_
  refine lv_lload hx hb dX4_keep_20 (lv_at hl 3 rfl) ?_
  refine kVv hx hb hml hown hts hK hP hS hA (As := [.long p2]) (rest := []) (c_X2_push l dC dI cA ad hI M_2 ((6 + 3 * k)) (by omega) p2 ) (mkV hts q_672 q_51 q_669 q_670 q_671 hyX2_push rfl rfl ⟨(Nat.le_of_ble_eq_true rfl), (Nat.le_of_ble_eq_true rfl)⟩) (w_recv hK hP (k := 13 + (6 + 3 * k)) (by omega) (lyCr (k := (6 + 3 * k)) (by omega)) (q := (RX2, TX2, 1)) rfl) rfl hl.1 rfl (Nat.le_of_ble_eq_true rfl) dX4_keep_22 ⟨(Nat.le_of_ble_eq_true rfl), (Nat.le_of_ble_eq_true rfl)⟩ (fun u H locs hw hP hS _ _ => ?_)
  obtain ⟨M_3, eM_3⟩ : ∃ z, z = u := ⟨_, rfl⟩
  rw [← eM_3] at hP hw
  have gM_3 := hw
  have hv := bnd_name hv hw
  refine lv_aload_n hx hb dX4_keep_25 rfl (lv_at hl 0 rfl) ?_
  refine lv_aload_n hx hb dX4_keep_26 rfl (lv_at hl 0 rfl) ?_
  refine fg_X4_41 hx hb hts hK hP hown (k := k) (by omega) dX4_keep_27 ?_
  refine lv_iconst (v := 1) hx hb dX4_keep_30 (by decide) ?_
  refine lv_iadd hx hb dX4_keep_31 ?_
  refine lv_bipush (v := 8) hx hb dX4_keep_32 (by decide) ?_
  refine va_mmin hx hb (hml.trans hl.1.symm) hown (hts _ q_675) (hts _ q_676) (hts _ q_59) (hts _ q_677) (Nat.le_of_ble_eq_true rfl) (Nat.le_of_ble_eq_true rfl) (Nat.le_of_ble_eq_true rfl) (Nat.le_of_ble_eq_true rfl) dX4_keep_34 ?_
  refine lv_topi (fun x_4 ex_4 => ?_)
  have hv := bnd_name hv ex_4
  refine fp_X4_41 hx hb hts hK hP hI hS hA hown (k := k) (by omega) dX4_keep_37 (fun H locs hP hS => ?_)
  obtain ⟨M_5, eM_5⟩ : ∃ z : Mem, z = sI M_3 (11 + 4 * k) x_4 := ⟨_, rfl⟩
  rw [← eM_5] at hP
  have hv := bnd_name hv eM_5
  refine lv_aload_n hx hb dX4_keep_40 rfl (lv_at hl 0 rfl) ?_
  refine lv_aload_n hx hb dX4_keep_41 rfl (lv_at hl 0 rfl) ?_
  refine kVi hx hb hml hown hts hK hP hS hA (As := []) (rest := [.ref (ad (5 + k))]) (c_X4_leastDelay l dC dI cA ad hI M_5 (k) (by omega)  ) (mkV hts q_681 q_52 q_678 q_680 q_16 hyX4_leastDelay rfl rfl ⟨(Nat.le_of_ble_eq_true rfl), (Nat.le_of_ble_eq_true rfl)⟩) (w_recv hK hP (k := 5 + k) (by omega) (lyCs (k := k) (by omega)) (q := (RX4, TX4, 9)) rfl) rfl hl.1 rfl (Nat.le_of_ble_eq_true rfl) dX4_keep_42 ⟨(Nat.le_of_ble_eq_true rfl), (Nat.le_of_ble_eq_true rfl)⟩ (fun r u H locs hw hP hS _ _ => ?_)
  obtain ⟨hw, hu⟩ := hw
  rw [hu] at hP
  have hv := bnd_name hv hw
  obtain ⟨r_6, er_6⟩ : ∃ z, z = r := ⟨_, rfl⟩
  rw [← er_6] at hv hw
  refine w_eqi er_6.symm ?_
  have gr_6 := hw
  refine fp_X4_44 hx hb hts hK hP hI hS hA hown (k := k) (by omega) dX4_keep_45 (fun H locs hP hS => ?_)
  obtain ⟨M_7, eM_7⟩ : ∃ z : Mem, z = sI M_5 (12 + 4 * k) r_6 := ⟨_, rfl⟩
  rw [← eM_7] at hP
  have hv := bnd_name hv eM_7
  exact W.vret hx hb hr (fun t ht hW => ⟨⟨M_7, rfl, hv.symm.trans eV, by rw [ht]; exact hP, va_K.moved hW.alike hK⟩, hS.F ht⟩) hS.2.2 dX4_keep_48
def f_X4_offsetJitter_L27 (M : Mem) (k : Nat) (r_2 : Int64) : Nat → Nat → Int64 → Int64
  | 0, _, _ => 0
  | r + 1, i, y3_27 => if nI i < gI M (11 + 4 * k) then bnd (f_X2_get M ((4 + 3 * k)) (nI i)) fun r_4 => bnd ((if 0 < (r_4 - r_2) then (r_4 - r_2) else -(r_4 - r_2))) fun x_5 => bnd ((y3_27 + x_5)) fun x_6 => f_X4_offsetJitter_L27 M k r_2 r (i + 1) x_6 else (y3_27 / ((gI M (11 + 4 * k) - (1 : Int32))).toInt64)
def f_X4_offsetJitter (M : Mem) (k : Nat) : Int64 := if gI M (11 + 4 * k) < (2 : Int32) then (0 : Int64) else bnd (f_X2_get M ((4 + 3 * k)) (gI M (12 + 4 * k))) fun r_2 => f_X4_offsetJitter_L27 M k r_2 ((gI M (11 + 4 * k)).toNatClampNeg + 1 - 0) 0 (0 : Int64)
theorem hyX4_offsetJitter : yX4_offsetJitter.cls ≠ "java/lang/invoke/MethodHandle" ∧ yX4_offsetJitter.cls ≠ "java/lang/invoke/VarHandle" ∧ (parseMethodDescriptor yX4_offsetJitter.desc).map (fun d => d.parameters.length) = some 0 := by decide +kernel
set_option maxHeartbeats 4000000 in
set_option maxRecDepth 100000 in
theorem c_X4_offsetJitter (l : Launch) (dC : Nat → ClassId) (dI : Nat → Nat → Nat) (cA : Nat → ClassId) (ad : Nat → Nat) (hI : Inj 69 ad) (M : Mem) (k : Nat) (hk : k < 8)  : Met l yX4_offsetJitter (.code yX4_offsetJitter cX4_offsetJitter 6 (some .long) :: AG) ({ frames := 1, cells := 0, slots := 0, locals := 23 } : Room) (va_Pc [.ref (ad (5 + k))] (PC dC dI cA ad M)) (va_Ql (fun r u => r = f_X4_offsetJitter M k ∧ u = M) (PC dC dI cA ad) (adS 69 ad)) 0 0 (adS 69 ad) := by
  refine cMet (by decide) (Nat.le_of_ble_eq_true rfl) ?_
  intro p e s m below meth c ls hx hb hr hml hlocks hown hts hK hP hS hl
  have hA : ∀ q, adS 69 ad q → adS 69 ad q := fun _ h => h
  have hl : lv_has ls 6 [(0, .ref (ad (5 + k)))] := hl
  obtain ⟨V, eV⟩ : ∃ z, z = f_X4_offsetJitter M k := ⟨_, rfl⟩
  have hv := eV
  unfold f_X4_offsetJitter at hv
  refine lv_aload_n hx hb dX4_offsetJitter_0 rfl (lv_at hl 0 rfl) ?_
  refine fg_X4_41 hx hb hts hK hP hown (k := k) (by omega) dX4_offsetJitter_1 ?_
  refine lv_iconst (v := 2) hx hb dX4_offsetJitter_4 (by decide) ?_
  refine jI_ge (tgt := 10) hx hb dX4_offsetJitter_5 (by decide) (fun c_1 => ?_) (fun c_1 => ?_)
  · have hv := hv.trans (if_pos c_1)
    refine lv_lconst (v := 0) hx hb dX4_offsetJitter_8 (by decide) ?_
    exact W.lret (v := (0 : Int64)) hx hb hr (fun t ht hW => ⟨⟨_, M, rfl, ⟨hv.symm.trans eV, rfl⟩, by rw [ht]; exact hP, va_K.moved hW.alike hK⟩, hS.F ht⟩) hS.2.2 dX4_offsetJitter_9
  · have hv := hv.trans (if_neg c_1)
    refine lv_aload_n hx hb dX4_offsetJitter_10 rfl (lv_at hl 0 rfl) ?_
    refine fg_X4_12 hx hb hts hK hP hown (k := k) (by omega) dX4_offsetJitter_11 ?_
    refine lv_aload_n hx hb dX4_offsetJitter_14 rfl (lv_at hl 0 rfl) ?_
    refine fg_X4_44 hx hb hts hK hP hown (k := k) (by omega) dX4_offsetJitter_15 ?_
    refine kVl hx hb hml hown hts hK hP hS hA (As := [.int (gI M (12 + 4 * k))]) (rest := []) (c_X2_get l dC dI cA ad hI M ((4 + 3 * k)) (by omega) (gI M (12 + 4 * k)) ) (mkV hts q_323 q_51 q_320 q_321 q_322 hyX2_get rfl rfl ⟨(Nat.le_of_ble_eq_true rfl), (Nat.le_of_ble_eq_true rfl)⟩) (w_recv hK hP (k := 13 + (4 + 3 * k)) (by omega) (lyCr (k := (4 + 3 * k)) (by omega)) (q := (RX2, TX2, 1)) rfl) rfl hl.1 rfl (Nat.le_of_ble_eq_true rfl) dX4_offsetJitter_18 ⟨(Nat.le_of_ble_eq_true rfl), (Nat.le_of_ble_eq_true rfl)⟩ (fun r u H locs hw hP hS _ _ => ?_)
    obtain ⟨hw, hu⟩ := hw
    rw [hu] at hP
    have hv := bnd_name hv hw
    obtain ⟨r_2, er_2⟩ : ∃ z, z = r := ⟨_, rfl⟩
    rw [← er_2] at hv hw
    refine w_eql er_2.symm ?_
    have gr_2 := hw
    refine lv_lstore_n (lv' := [(1, .long r_2), (0, .ref (ad (5 + k)))]) hx hb dX4_offsetJitter_21 rfl hl (by decide) rfl (fun ls hl => ?_)
    refine lv_lconst (v := 0) hx hb dX4_offsetJitter_22 (by decide) ?_
    refine lv_lstore_n (lv' := [(3, .long (0 : Int64)), (1, .long r_2), (0, .ref (ad (5 + k)))]) hx hb dX4_offsetJitter_23 rfl hl (by decide) rfl (fun ls hl => ?_)
    refine lv_iconst (v := 0) hx hb dX4_offsetJitter_24 (by decide) ?_
    refine lv_istore (lv' := [(5, .int (0 : Int32)), (3, .long (0 : Int64)), (1, .long r_2), (0, .ref (ad (5 + k)))]) hx hb dX4_offsetJitter_25 hl (by decide) rfl (fun ls hl => ?_)
    have L27 : ∀ (r i : Nat) (y3_27 : Int64) (H : Heap) (locs : List Loc) (ls : Array Slot), i + r = (gI M (11 + 4 * k)).toNatClampNeg + 1 → i ≤ (gI M (11 + 4 * k)).toNatClampNeg → V = f_X4_offsetJitter_L27 M k r_2 r i y3_27 → va_P (dC, dI) vwCl (wld 69 layC cA ad M) H → va_S (adS 69 ad) s.heap H locs → lv_has ls 6 [(5, .int (nI i)), (3, .long y3_27), (1, .long r_2), (0, .ref (ad (5 + k)))] → W p l e ({ frames := 1, cells := 0, slots := 0, locals := 23 } : Room) s m ([.ref (ad (5 + k))] : List Value).toArray below meth c H locs 0 0 (MQ below (va_Ql (fun r u => r = f_X4_offsetJitter M k ∧ u = M) (PC dC dI cA ad) (adS 69 ad)) ([.ref (ad (5 + k))] : List Value).toArray s 0 0 (adS 69 ad)) (F0 m 27 ls []) := by
      intro r
      induction r with
      | zero =>
        intro i y3_27 H locs ls hir hib
        omega
      | succ r ih =>
        intro i y3_27 H locs ls hir hib hv hP hS hl
        rw [f_X4_offsetJitter_L27] at hv
        have hcn := cn_lt (gI M (11 + 4 * k))
        refine lv_iload hx hb dX4_offsetJitter_27 (lv_at hl 0 rfl) ?_
        refine lv_aload_n hx hb dX4_offsetJitter_29 rfl (lv_at hl 3 rfl) ?_
        refine fg_X4_41 hx hb hts hK hP hown (k := k) (by omega) dX4_offsetJitter_30 ?_
        refine jI_ge (tgt := 59) hx hb dX4_offsetJitter_33 (by decide) (fun c_3 => ?_) (fun c_3 => ?_)
        · have hv := hv.trans (if_pos c_3)
          have hc_3 : i < (gI M (11 + 4 * k)).toNatClampNeg := nI_lt1 c_3 (by have := cn_lt (gI M (11 + 4 * k)); omega)
          refine lv_lload_n hx hb dX4_offsetJitter_36 rfl (lv_at hl 1 rfl) ?_
          refine lv_aload_n hx hb dX4_offsetJitter_37 rfl (lv_at hl 3 rfl) ?_
          refine fg_X4_12 hx hb hts hK hP hown (k := k) (by omega) dX4_offsetJitter_38 ?_
          refine lv_iload hx hb dX4_offsetJitter_41 (lv_at hl 0 rfl) ?_
          refine kVl hx hb hml hown hts hK hP hS hA (As := [.int (nI i)]) (rest := [.long y3_27]) (c_X2_get l dC dI cA ad hI M ((4 + 3 * k)) (by omega) (nI i) ) (mkV hts q_323 q_51 q_320 q_321 q_322 hyX2_get rfl rfl ⟨(Nat.le_of_ble_eq_true rfl), (Nat.le_of_ble_eq_true rfl)⟩) (w_recv hK hP (k := 13 + (4 + 3 * k)) (by omega) (lyCr (k := (4 + 3 * k)) (by omega)) (q := (RX2, TX2, 1)) rfl) rfl hl.1 rfl (Nat.le_of_ble_eq_true rfl) dX4_offsetJitter_43 ⟨(Nat.le_of_ble_eq_true rfl), (Nat.le_of_ble_eq_true rfl)⟩ (fun r u H locs hw hP hS _ _ => ?_)
          obtain ⟨hw, hu⟩ := hw
          rw [hu] at hP
          have hv := bnd_name hv hw
          obtain ⟨r_4, er_4⟩ : ∃ z, z = r := ⟨_, rfl⟩
          rw [← er_4] at hv hw
          refine w_eql er_4.symm ?_
          have gr_4 := hw
          refine lv_lload_n hx hb dX4_offsetJitter_46 rfl (lv_at hl 2 rfl) ?_
          refine lv_lsub hx hb dX4_offsetJitter_47 ?_
          refine va_mabs_long hx hb (hml.trans hl.1.symm) hown (hts _ q_341) (hts _ q_342) (hts _ q_59) (hts _ q_343) (Nat.le_of_ble_eq_true rfl) (Nat.le_of_ble_eq_true rfl) (Nat.le_of_ble_eq_true rfl) (Nat.le_of_ble_eq_true rfl) dX4_offsetJitter_48 ?_
          refine lv_topl (fun x_5 ex_5 => ?_)
          have hv := bnd_name hv ex_5
          refine lv_ladd hx hb dX4_offsetJitter_51 ?_
          refine lv_topl (fun x_6 ex_6 => ?_)
          have hv := bnd_name hv ex_6
          refine lv_lstore_n (lv' := [(3, .long x_6), (5, .int (nI i)), (1, .long r_2), (0, .ref (ad (5 + k)))]) hx hb dX4_offsetJitter_52 rfl hl (by decide) rfl (fun ls hl => ?_)
          refine lv_iinc (v := nI (i + 1)) (lv' := [(5, .int (nI (i + 1))), (3, .long x_6), (1, .long r_2), (0, .ref (ad (5 + k)))]) hx hb dX4_offsetJitter_53 hl (k := 1) rfl (show nI (i) + 1 = nI (i + 1) from nI_1 _) (by decide) rfl (fun ls hl => ?_)
          refine lv_goto (tgt := 27) hx hb dX4_offsetJitter_56 (by decide) ?_
          exact ih (i + 1) x_6 _ _ _ (by omega) (by omega)  hv hP hS (lv_sub hl [0, 1, 2, 3] rfl)
        · have hv := hv.trans (if_neg c_3)
          refine lv_lload_n hx hb dX4_offsetJitter_59 rfl (lv_at hl 1 rfl) ?_
          refine lv_aload_n hx hb dX4_offsetJitter_60 rfl (lv_at hl 3 rfl) ?_
          refine fg_X4_41 hx hb hts hK hP hown (k := k) (by omega) dX4_offsetJitter_61 ?_
          refine lv_iconst (v := 1) hx hb dX4_offsetJitter_64 (by decide) ?_
          refine lv_isub hx hb dX4_offsetJitter_65 ?_
          refine lv_i2l (v := ((gI M (11 + 4 * k) - (1 : Int32))).toInt64) hx hb dX4_offsetJitter_66 rfl ?_
          refine lv_ldiv hx hb dX4_offsetJitter_67 (jd_ne c_1) ?_
          exact W.lret (v := (y3_27 / ((gI M (11 + 4 * k) - (1 : Int32))).toInt64)) hx hb hr (fun t ht hW => ⟨⟨_, M, rfl, ⟨hv.symm.trans eV, rfl⟩, by rw [ht]; exact hP, va_K.moved hW.alike hK⟩, hS.F ht⟩) hS.2.2 dX4_offsetJitter_68
    exact L27 ((gI M (11 + 4 * k)).toNatClampNeg + 1 - 0) 0 (0 : Int64) _ _ _ (by omega) (by omega)  hv hP hS (lv_sub hl [0, 1, 2, 3] rfl)
def f_X4_distanceAt (M : Mem) (k : Nat) (p0 : Int64) : Int64 := bnd (f_X2_get M ((6 + 3 * k)) (gI M (12 + 4 * k))) fun r_1 => bnd ((p0 - r_1)) fun x_2 => bnd (f_X4_bestDelay M (k) ) fun r_3 => bnd (f_X4_offsetJitter M (k) ) fun r_4 => bnd ((f_J9_floorDiv_f86c9 ((15 : Int64) * x_2) (1000000 : Int64))) fun x_5 => (((((gL M (6 + 2 * k) / (2 : Int64)) + (r_3 / (2 : Int64))) + gL M (7 + 2 * k)) + r_4) + x_5)
theorem hyX4_distanceAt : yX4_distanceAt.cls ≠ "java/lang/invoke/MethodHandle" ∧ yX4_distanceAt.cls ≠ "java/lang/invoke/VarHandle" ∧ (parseMethodDescriptor yX4_distanceAt.desc).map (fun d => d.parameters.length) = some 1 := by decide +kernel
set_option maxHeartbeats 4000000 in
set_option maxRecDepth 100000 in
theorem c_X4_distanceAt (l : Launch) (dC : Nat → ClassId) (dI : Nat → Nat → Nat) (cA : Nat → ClassId) (ad : Nat → Nat) (hI : Inj 69 ad) (M : Mem) (k : Nat) (hk : k < 8) (p0 : Int64)  : Met l yX4_distanceAt (.code yX4_distanceAt cX4_distanceAt 5 (some .long) :: AG) ({ frames := 2, cells := 0, slots := 0, locals := 48 } : Room) (va_Pc [.ref (ad (5 + k)), .long p0] (PC dC dI cA ad M)) (va_Ql (fun r u => r = f_X4_distanceAt M k p0 ∧ u = M) (PC dC dI cA ad) (adS 69 ad)) 0 0 (adS 69 ad) := by
  refine cMet (by decide) (Nat.le_of_ble_eq_true rfl) ?_
  intro p e s m below meth c ls hx hb hr hml hlocks hown hts hK hP hS hl
  have hA : ∀ q, adS 69 ad q → adS 69 ad q := fun _ h => h
  have hl : lv_has ls 5 [(0, .ref (ad (5 + k))), (1, .long p0)] := hl
  obtain ⟨V, eV⟩ : ∃ z, z = f_X4_distanceAt M k p0 := ⟨_, rfl⟩
  have hv := eV
  unfold f_X4_distanceAt at hv
  refine lv_lload_n hx hb dX4_distanceAt_0 rfl (lv_at hl 1 rfl) ?_
  refine lv_aload_n hx hb dX4_distanceAt_1 rfl (lv_at hl 0 rfl) ?_
  refine fg_X4_21 hx hb hts hK hP hown (k := k) (by omega) dX4_distanceAt_2 ?_
  refine lv_aload_n hx hb dX4_distanceAt_5 rfl (lv_at hl 0 rfl) ?_
  refine fg_X4_44 hx hb hts hK hP hown (k := k) (by omega) dX4_distanceAt_6 ?_
  refine kVl hx hb hml hown hts hK hP hS hA (As := [.int (gI M (12 + 4 * k))]) (rest := [.long p0]) (c_X2_get l dC dI cA ad hI M ((6 + 3 * k)) (by omega) (gI M (12 + 4 * k)) ) (mkV hts q_323 q_51 q_320 q_321 q_322 hyX2_get rfl rfl ⟨(Nat.le_of_ble_eq_true rfl), (Nat.le_of_ble_eq_true rfl)⟩) (w_recv hK hP (k := 13 + (6 + 3 * k)) (by omega) (lyCr (k := (6 + 3 * k)) (by omega)) (q := (RX2, TX2, 1)) rfl) rfl hl.1 rfl (Nat.le_of_ble_eq_true rfl) dX4_distanceAt_9 ⟨(Nat.le_of_ble_eq_true rfl), (Nat.le_of_ble_eq_true rfl)⟩ (fun r u H locs hw hP hS _ _ => ?_)
  obtain ⟨hw, hu⟩ := hw
  rw [hu] at hP
  have hv := bnd_name hv hw
  obtain ⟨r_1, er_1⟩ : ∃ z, z = r := ⟨_, rfl⟩
  rw [← er_1] at hv hw
  refine w_eql er_1.symm ?_
  have gr_1 := hw
  refine lv_lsub hx hb dX4_distanceAt_12 ?_
  refine lv_topl (fun x_2 ex_2 => ?_)
  have hv := bnd_name hv ex_2
  refine lv_lstore_n (lv' := [(3, .long x_2), (0, .ref (ad (5 + k))), (1, .long p0)]) hx hb dX4_distanceAt_13 rfl hl (by decide) rfl (fun ls hl => ?_)
  refine lv_aload_n hx hb dX4_distanceAt_14 rfl (lv_at hl 1 rfl) ?_
  refine fg_X4_31 hx hb hts hK hP hown (k := k) (by omega) dX4_distanceAt_15 ?_
  refine lv_ldc2 (v := 2) hx hb hown (hts _ q_332) dX4_distanceAt_18 ?_
  refine lv_ldiv hx hb dX4_distanceAt_21 (by decide) ?_
  refine lv_aload_n hx hb dX4_distanceAt_22 rfl (lv_at hl 1 rfl) ?_
  refine kVl hx hb hml hown hts hK hP hS hA (As := []) (rest := [.long (gL M (6 + 2 * k) / (2 : Int64))]) (c_X4_bestDelay l dC dI cA ad hI M (k) (by omega)  ) (mkV hts q_336 q_52 q_333 q_334 q_335 hyX4_bestDelay rfl rfl ⟨(Nat.le_of_ble_eq_true rfl), (Nat.le_of_ble_eq_true rfl)⟩) (w_recv hK hP (k := 5 + k) (by omega) (lyCs (k := k) (by omega)) (q := (RX4, TX4, 9)) rfl) rfl hl.1 rfl (Nat.le_of_ble_eq_true rfl) dX4_distanceAt_23 ⟨(Nat.le_of_ble_eq_true rfl), (Nat.le_of_ble_eq_true rfl)⟩ (fun r u H locs hw hP hS _ _ => ?_)
  obtain ⟨hw, hu⟩ := hw
  rw [hu] at hP
  have hv := bnd_name hv hw
  obtain ⟨r_3, er_3⟩ : ∃ z, z = r := ⟨_, rfl⟩
  rw [← er_3] at hv hw
  refine w_eql er_3.symm ?_
  have gr_3 := hw
  refine lv_ldc2 (v := 2) hx hb hown (hts _ q_332) dX4_distanceAt_26 ?_
  refine lv_ldiv hx hb dX4_distanceAt_29 (by decide) ?_
  refine lv_ladd hx hb dX4_distanceAt_30 ?_
  refine lv_aload_n hx hb dX4_distanceAt_31 rfl (lv_at hl 1 rfl) ?_
  refine fg_X4_35 hx hb hts hK hP hown (k := k) (by omega) dX4_distanceAt_32 ?_
  refine lv_ladd hx hb dX4_distanceAt_35 ?_
  refine lv_aload_n hx hb dX4_distanceAt_36 rfl (lv_at hl 1 rfl) ?_
  refine kVl hx hb hml hown hts hK hP hS hA (As := []) (rest := [.long (((gL M (6 + 2 * k) / (2 : Int64)) + (r_3 / (2 : Int64))) + gL M (7 + 2 * k))]) (c_X4_offsetJitter l dC dI cA ad hI M (k) (by omega)  ) (mkV hts q_340 q_52 q_337 q_338 q_339 hyX4_offsetJitter rfl rfl ⟨(Nat.le_of_ble_eq_true rfl), (Nat.le_of_ble_eq_true rfl)⟩) (w_recv hK hP (k := 5 + k) (by omega) (lyCs (k := k) (by omega)) (q := (RX4, TX4, 9)) rfl) rfl hl.1 rfl (Nat.le_of_ble_eq_true rfl) dX4_distanceAt_37 ⟨(Nat.le_of_ble_eq_true rfl), (Nat.le_of_ble_eq_true rfl)⟩ (fun r u H locs hw hP hS _ _ => ?_)
  obtain ⟨hw, hu⟩ := hw
  rw [hu] at hP
  have hv := bnd_name hv hw
  obtain ⟨r_4, er_4⟩ : ∃ z, z = r := ⟨_, rfl⟩
  rw [← er_4] at hv hw
  refine w_eql er_4.symm ?_
  have gr_4 := hw
  refine lv_ladd hx hb dX4_distanceAt_40 ?_
  refine lv_ldc2 (v := 15) hx hb hown (hts _ q_344) dX4_distanceAt_41 ?_
  refine lv_lload_n hx hb dX4_distanceAt_44 rfl (lv_at hl 0 rfl) ?_
  refine lv_lmul hx hb dX4_distanceAt_45 ?_
  refine lv_ldc2 (v := 1000000) hx hb hown (hts _ q_345) dX4_distanceAt_46 ?_
  refine kSl hx hb hml hown hts (As := [.long ((15 : Int64) * x_2), .long (1000000 : Int64)]) (rest := [.long ((((gL M (6 + 2 * k) / (2 : Int64)) + (r_3 / (2 : Int64))) + gL M (7 + 2 * k)) + r_4)]) (c_J9_floorDiv_f86c9 l ((15 : Int64) * x_2) (1000000 : Int64) (by decide)) (mkS hts q_242 q_59 q_346 q_241 hyJ9_floorDiv_f86c9 rfl rfl ⟨(Nat.le_of_ble_eq_true rfl), (Nat.le_of_ble_eq_true rfl)⟩) rfl hl.1 rfl (Nat.le_of_ble_eq_true rfl) dX4_distanceAt_49 ⟨(Nat.le_of_ble_eq_true rfl), (Nat.le_of_ble_eq_true rfl)⟩ ?_
  refine lv_topl (fun x_5 ex_5 => ?_)
  have hv := bnd_name hv ex_5
  refine lv_ladd hx hb dX4_distanceAt_52 ?_
  exact W.lret (v := (((((gL M (6 + 2 * k) / (2 : Int64)) + (r_3 / (2 : Int64))) + gL M (7 + 2 * k)) + r_4) + x_5)) hx hb hr (fun t ht hW => ⟨⟨_, M, rfl, ⟨hv.symm.trans eV, rfl⟩, by rw [ht]; exact hP, va_K.moved hW.alike hK⟩, hS.F ht⟩) hS.2.2 dX4_distanceAt_53
