def f_J9_floorDiv_f86c9 (p0 : Int64) (p1 : Int64) : Int64 := bnd ((p0 / p1)) fun x_1 => if (p0 ^^^ p1) < (0 : Int64) then if (x_1 * p1) = p0 then x_1 else (x_1 - (1 : Int64)) else x_1
theorem hyJ9_floorDiv_f86c9 : yJ9_floorDiv_f86c9.cls ≠ "java/lang/invoke/MethodHandle" ∧ yJ9_floorDiv_f86c9.cls ≠ "java/lang/invoke/VarHandle" ∧ (parseMethodDescriptor yJ9_floorDiv_f86c9.desc).map (fun d => d.parameters.length) = some 2 := by decide +kernel
set_option maxHeartbeats 4000000 in
set_option maxRecDepth 100000 in
theorem c_J9_floorDiv_f86c9 (l : Launch) (p0 : Int64) (p1 : Int64) (hy : ¬ p1 = 0) : Met l yJ9_floorDiv_f86c9 (.code yJ9_floorDiv_f86c9 cJ9_floorDiv_f86c9 6 (some .long) :: AG) ({ frames := 0, cells := 0, slots := 0, locals := 0 } : Room) (fun v _ => v = ([.long p0, .long p1] : List Value).toArray) (vp_Sl (fun r => r = f_J9_floorDiv_f86c9 p0 p1)) 0 0 (fun _ => False) := by
  refine sMetF (by decide +kernel) (Nat.le_of_ble_eq_true rfl) ?_
  intro p e s m below meth c ls hx hb hr hml hlocks hown hts hl
  have hl : lv_has ls 6 [(0, .long p0), (2, .long p1)] := hl
  obtain ⟨V, eV⟩ : ∃ z, z = f_J9_floorDiv_f86c9 p0 p1 := ⟨_, rfl⟩
  have hv := eV
  unfold f_J9_floorDiv_f86c9 at hv
  refine lv_lload_n hx hb dJ9_floorDiv_f86c9_0 rfl (lv_at hl 0 rfl) ?_
  refine lv_lload_n hx hb dJ9_floorDiv_f86c9_1 rfl (lv_at hl 1 rfl) ?_
  refine lv_ldiv hx hb dJ9_floorDiv_f86c9_2 hy ?_
  refine lv_topl (fun x_1 ex_1 => ?_)
  have hv := bnd_name hv ex_1
  refine lv_lstore (lv' := [(4, .long x_1), (0, .long p0), (2, .long p1)]) hx hb dJ9_floorDiv_f86c9_3 hl (by decide) rfl (fun ls hl => ?_)
  refine lv_lload_n hx hb dJ9_floorDiv_f86c9_5 rfl (lv_at hl 1 rfl) ?_
  refine lv_lload_n hx hb dJ9_floorDiv_f86c9_6 rfl (lv_at hl 2 rfl) ?_
  refine lv_lxor hx hb dJ9_floorDiv_f86c9_7 ?_
  refine lv_lconst (v := 0) hx hb dJ9_floorDiv_f86c9_8 (by decide) ?_
  refine jL_ge (tgt := 27) hx hb dJ9_floorDiv_f86c9_9 dJ9_floorDiv_f86c9_10 (by decide) (fun c_2 => ?_) (fun c_2 => ?_)
  · have hv := hv.trans (if_pos c_2)
    refine lv_lload hx hb dJ9_floorDiv_f86c9_13 (lv_at hl 0 rfl) ?_
    refine lv_lload_n hx hb dJ9_floorDiv_f86c9_15 rfl (lv_at hl 2 rfl) ?_
    refine lv_lmul hx hb dJ9_floorDiv_f86c9_16 ?_
    refine lv_lload_n hx hb dJ9_floorDiv_f86c9_17 rfl (lv_at hl 1 rfl) ?_
    refine jL_eq (tgt := 27) hx hb dJ9_floorDiv_f86c9_18 dJ9_floorDiv_f86c9_19 (by decide) (fun c_3 => ?_) (fun c_3 => ?_)
    · have hv := hv.trans (if_pos c_3)
      refine lv_lload hx hb dJ9_floorDiv_f86c9_27 (lv_at hl 0 rfl) ?_
      exact W.lret (v := x_1) hx hb hr (fun t ht hW => ⟨_, rfl, hv.symm.trans eV, ht⟩) (fun q h => nomatch h) dJ9_floorDiv_f86c9_29
    · have hv := hv.trans (if_neg c_3)
      refine lv_lload hx hb dJ9_floorDiv_f86c9_22 (lv_at hl 0 rfl) ?_
      refine lv_lconst (v := 1) hx hb dJ9_floorDiv_f86c9_24 (by decide) ?_
      refine lv_lsub hx hb dJ9_floorDiv_f86c9_25 ?_
      exact W.lret (v := (x_1 - (1 : Int64))) hx hb hr (fun t ht hW => ⟨_, rfl, hv.symm.trans eV, ht⟩) (fun q h => nomatch h) dJ9_floorDiv_f86c9_26
  · have hv := hv.trans (if_neg c_2)
    refine lv_lload hx hb dJ9_floorDiv_f86c9_27 (lv_at hl 0 rfl) ?_
    exact W.lret (v := x_1) hx hb hr (fun t ht hW => ⟨_, rfl, hv.symm.trans eV, ht⟩) (fun q h => nomatch h) dJ9_floorDiv_f86c9_29
def f_J6_bitCount_0f7a4 (p0 : Int32) : Int32 := bnd ((p0 - (((p0).toUInt32 >>> (((1 : Int32)).toUInt32 &&& Int32.toUInt32 31)).toInt32 &&& (1431655765 : Int32)))) fun x_1 => bnd (((x_1 &&& (858993459 : Int32)) + (((x_1).toUInt32 >>> (((2 : Int32)).toUInt32 &&& Int32.toUInt32 31)).toInt32 &&& (858993459 : Int32)))) fun x_2 => bnd (((x_2 + ((x_2).toUInt32 >>> (((4 : Int32)).toUInt32 &&& Int32.toUInt32 31)).toInt32) &&& (252645135 : Int32))) fun x_3 => bnd ((x_3 + ((x_3).toUInt32 >>> (((8 : Int32)).toUInt32 &&& Int32.toUInt32 31)).toInt32)) fun x_4 => bnd ((x_4 + ((x_4).toUInt32 >>> (((16 : Int32)).toUInt32 &&& Int32.toUInt32 31)).toInt32)) fun x_5 => (x_5 &&& (63 : Int32))
theorem hyJ6_bitCount_0f7a4 : yJ6_bitCount_0f7a4.cls ≠ "java/lang/invoke/MethodHandle" ∧ yJ6_bitCount_0f7a4.cls ≠ "java/lang/invoke/VarHandle" ∧ (parseMethodDescriptor yJ6_bitCount_0f7a4.desc).map (fun d => d.parameters.length) = some 1 := by decide +kernel
set_option maxHeartbeats 4000000 in
set_option maxRecDepth 100000 in
theorem c_J6_bitCount_0f7a4 (l : Launch) (p0 : Int32)  : Met l yJ6_bitCount_0f7a4 (.code yJ6_bitCount_0f7a4 cJ6_bitCount_0f7a4 1 (some .int) :: AG) ({ frames := 0, cells := 0, slots := 0, locals := 0 } : Room) (fun v _ => v = ([.int p0] : List Value).toArray) (vp_Si (fun r => r = f_J6_bitCount_0f7a4 p0)) 0 0 (fun _ => False) := by
  refine sMetF (by decide +kernel) (Nat.le_of_ble_eq_true rfl) ?_
  intro p e s m below meth c ls hx hb hr hml hlocks hown hts hl
  have hl : lv_has ls 1 [(0, .int p0)] := hl
  obtain ⟨V, eV⟩ : ∃ z, z = f_J6_bitCount_0f7a4 p0 := ⟨_, rfl⟩
  have hv := eV
  unfold f_J6_bitCount_0f7a4 at hv
  refine lv_iload_n hx hb dJ6_bitCount_0f7a4_0 rfl (lv_at hl 0 rfl) ?_
  refine lv_iload_n hx hb dJ6_bitCount_0f7a4_1 rfl (lv_at hl 0 rfl) ?_
  refine lv_iconst (v := 1) hx hb dJ6_bitCount_0f7a4_2 (by decide) ?_
  refine lv_iushr hx hb dJ6_bitCount_0f7a4_3 rfl ?_
  refine lv_ldcw (v := 1431655765) hx hb hown (hts _ q_372) dJ6_bitCount_0f7a4_4 ?_
  refine lv_iand hx hb dJ6_bitCount_0f7a4_7 ?_
  refine lv_isub hx hb dJ6_bitCount_0f7a4_8 ?_
  refine lv_topi (fun x_1 ex_1 => ?_)
  have hv := bnd_name hv ex_1
  refine lv_istore_n (lv' := [(0, .int x_1)]) hx hb dJ6_bitCount_0f7a4_9 rfl hl (by decide) rfl (fun ls hl => ?_)
  refine lv_iload_n hx hb dJ6_bitCount_0f7a4_10 rfl (lv_at hl 0 rfl) ?_
  refine lv_ldcw (v := 858993459) hx hb hown (hts _ q_373) dJ6_bitCount_0f7a4_11 ?_
  refine lv_iand hx hb dJ6_bitCount_0f7a4_14 ?_
  refine lv_iload_n hx hb dJ6_bitCount_0f7a4_15 rfl (lv_at hl 0 rfl) ?_
  refine lv_iconst (v := 2) hx hb dJ6_bitCount_0f7a4_16 (by decide) ?_
  refine lv_iushr hx hb dJ6_bitCount_0f7a4_17 rfl ?_
  refine lv_ldcw (v := 858993459) hx hb hown (hts _ q_373) dJ6_bitCount_0f7a4_18 ?_
  refine lv_iand hx hb dJ6_bitCount_0f7a4_21 ?_
  refine lv_iadd hx hb dJ6_bitCount_0f7a4_22 ?_
  refine lv_topi (fun x_2 ex_2 => ?_)
  have hv := bnd_name hv ex_2
  refine lv_istore_n (lv' := [(0, .int x_2)]) hx hb dJ6_bitCount_0f7a4_23 rfl hl (by decide) rfl (fun ls hl => ?_)
  refine lv_iload_n hx hb dJ6_bitCount_0f7a4_24 rfl (lv_at hl 0 rfl) ?_
  refine lv_iload_n hx hb dJ6_bitCount_0f7a4_25 rfl (lv_at hl 0 rfl) ?_
  refine lv_iconst (v := 4) hx hb dJ6_bitCount_0f7a4_26 (by decide) ?_
  refine lv_iushr hx hb dJ6_bitCount_0f7a4_27 rfl ?_
  refine lv_iadd hx hb dJ6_bitCount_0f7a4_28 ?_
  refine lv_ldcw (v := 252645135) hx hb hown (hts _ q_374) dJ6_bitCount_0f7a4_29 ?_
  refine lv_iand hx hb dJ6_bitCount_0f7a4_32 ?_
  refine lv_topi (fun x_3 ex_3 => ?_)
  have hv := bnd_name hv ex_3
  refine lv_istore_n (lv' := [(0, .int x_3)]) hx hb dJ6_bitCount_0f7a4_33 rfl hl (by decide) rfl (fun ls hl => ?_)
  refine lv_iload_n hx hb dJ6_bitCount_0f7a4_34 rfl (lv_at hl 0 rfl) ?_
  refine lv_iload_n hx hb dJ6_bitCount_0f7a4_35 rfl (lv_at hl 0 rfl) ?_
  refine lv_bipush (v := 8) hx hb dJ6_bitCount_0f7a4_36 (by decide) ?_
  refine lv_iushr hx hb dJ6_bitCount_0f7a4_38 rfl ?_
  refine lv_iadd hx hb dJ6_bitCount_0f7a4_39 ?_
  refine lv_topi (fun x_4 ex_4 => ?_)
  have hv := bnd_name hv ex_4
  refine lv_istore_n (lv' := [(0, .int x_4)]) hx hb dJ6_bitCount_0f7a4_40 rfl hl (by decide) rfl (fun ls hl => ?_)
  refine lv_iload_n hx hb dJ6_bitCount_0f7a4_41 rfl (lv_at hl 0 rfl) ?_
  refine lv_iload_n hx hb dJ6_bitCount_0f7a4_42 rfl (lv_at hl 0 rfl) ?_
  refine lv_bipush (v := 16) hx hb dJ6_bitCount_0f7a4_43 (by decide) ?_
  refine lv_iushr hx hb dJ6_bitCount_0f7a4_45 rfl ?_
  refine lv_iadd hx hb dJ6_bitCount_0f7a4_46 ?_
  refine lv_topi (fun x_5 ex_5 => ?_)
  have hv := bnd_name hv ex_5
  refine lv_istore_n (lv' := [(0, .int x_5)]) hx hb dJ6_bitCount_0f7a4_47 rfl hl (by decide) rfl (fun ls hl => ?_)
  refine lv_iload_n hx hb dJ6_bitCount_0f7a4_48 rfl (lv_at hl 0 rfl) ?_
  refine lv_bipush (v := 63) hx hb dJ6_bitCount_0f7a4_49 (by decide) ?_
  refine lv_iand hx hb dJ6_bitCount_0f7a4_51 ?_
  exact W.iret (v := (x_5 &&& (63 : Int32))) hx hb hr (fun t ht hW => ⟨_, rfl, hv.symm.trans eV, ht⟩) (fun q h => nomatch h) dJ6_bitCount_0f7a4_52
def f_X0_contains (p0 : Int32) (p1 : Int32) : Int32 := if ((p0 >>> (p1 &&& 31)) &&& (1 : Int32)) = (0 : Int32) then (0 : Int32) else (1 : Int32)
theorem hyX0_contains : yX0_contains.cls ≠ "java/lang/invoke/MethodHandle" ∧ yX0_contains.cls ≠ "java/lang/invoke/VarHandle" ∧ (parseMethodDescriptor yX0_contains.desc).map (fun d => d.parameters.length) = some 2 := by decide +kernel
set_option maxHeartbeats 4000000 in
set_option maxRecDepth 100000 in
theorem c_X0_contains (l : Launch) (p0 : Int32) (p1 : Int32)  : Met l yX0_contains (.code yX0_contains cX0_contains 2 (some .boolean) :: AG) ({ frames := 0, cells := 0, slots := 0, locals := 0 } : Room) (fun v _ => v = ([.int p0, .int p1] : List Value).toArray) (vp_Si (fun r => r = f_X0_contains p0 p1)) 0 0 (fun _ => False) := by
  refine sMet (by decide) (Nat.le_of_ble_eq_true rfl) ?_
  intro p e s m below meth c ls hx hb hr hml hlocks hown hts hl
  have hl : lv_has ls 2 [(0, .int p0), (1, .int p1)] := hl
  obtain ⟨V, eV⟩ : ∃ z, z = f_X0_contains p0 p1 := ⟨_, rfl⟩
  have hv := eV
  unfold f_X0_contains at hv
  refine lv_iload_n hx hb dX0_contains_0 rfl (lv_at hl 0 rfl) ?_
  refine lv_iload_n hx hb dX0_contains_1 rfl (lv_at hl 1 rfl) ?_
  refine lv_ishr hx hb dX0_contains_2 ?_
  refine lv_iconst (v := 1) hx hb dX0_contains_3 (by decide) ?_
  refine lv_iand hx hb dX0_contains_4 ?_
  refine j0_eq (tgt := 12) hx hb dX0_contains_5 (by decide) (fun c_1 => ?_) (fun c_1 => ?_)
  · have hv := hv.trans (if_pos c_1)
    refine lv_iconst (v := 0) hx hb dX0_contains_12 (by decide) ?_
    exact W.zret (v := (0 : Int32)) hx hb hr rfl (fun t ht hW => ⟨_, rfl, hv.symm.trans eV, ht⟩) (fun q h => nomatch h) dX0_contains_13
  · have hv := hv.trans (if_neg c_1)
    refine lv_iconst (v := 1) hx hb dX0_contains_8 (by decide) ?_
    refine lv_goto (tgt := 13) hx hb dX0_contains_9 (by decide) ?_
    exact W.zret (v := (1 : Int32)) hx hb hr rfl (fun t ht hW => ⟨_, rfl, hv.symm.trans eV, ht⟩) (fun q h => nomatch h) dX0_contains_13
theorem f_X0_contains_b (p0 : Int32) (p1 : Int32) : (f_X0_contains p0 p1) = 0 ∨ (f_X0_contains p0 p1) = 1 := by
  unfold f_X0_contains
  repeat' (first | with_reducible refine bnd_or (fun _ => ?_) | with_reducible refine bnd2_or (fun _ _ => ?_) | with_reducible refine ite_or ?_ ?_ | exact Or.inl rfl | exact Or.inr rfl)
def f_X0_smearBeginning (p0 : Int32) : Int64 := ((((p0).toInt64 + (1 : Int64)) * (86400000000 : Int64)) - (20000000000 : Int64))
theorem hyX0_smearBeginning : yX0_smearBeginning.cls ≠ "java/lang/invoke/MethodHandle" ∧ yX0_smearBeginning.cls ≠ "java/lang/invoke/VarHandle" ∧ (parseMethodDescriptor yX0_smearBeginning.desc).map (fun d => d.parameters.length) = some 1 := by decide +kernel
set_option maxHeartbeats 4000000 in
set_option maxRecDepth 100000 in
theorem c_X0_smearBeginning (l : Launch) (p0 : Int32)  : Met l yX0_smearBeginning (.code yX0_smearBeginning cX0_smearBeginning 1 (some .long) :: AG) ({ frames := 0, cells := 0, slots := 0, locals := 0 } : Room) (fun v _ => v = ([.int p0] : List Value).toArray) (vp_Sl (fun r => r = f_X0_smearBeginning p0)) 0 0 (fun _ => False) := by
  refine sMet (by decide) (Nat.le_of_ble_eq_true rfl) ?_
  intro p e s m below meth c ls hx hb hr hml hlocks hown hts hl
  have hl : lv_has ls 1 [(0, .int p0)] := hl
  obtain ⟨V, eV⟩ : ∃ z, z = f_X0_smearBeginning p0 := ⟨_, rfl⟩
  have hv := eV
  unfold f_X0_smearBeginning at hv
  refine lv_iload_n hx hb dX0_smearBeginning_0 rfl (lv_at hl 0 rfl) ?_
  refine lv_i2l (v := (p0).toInt64) hx hb dX0_smearBeginning_1 rfl ?_
  refine lv_lconst (v := 1) hx hb dX0_smearBeginning_2 (by decide) ?_
  refine lv_ladd hx hb dX0_smearBeginning_3 ?_
  refine lv_ldc2 (v := 86400000000) hx hb hown (hts _ q_280) dX0_smearBeginning_4 ?_
  refine lv_lmul hx hb dX0_smearBeginning_7 ?_
  refine lv_ldc2 (v := 20000000000) hx hb hown (hts _ q_281) dX0_smearBeginning_8 ?_
  refine lv_lsub hx hb dX0_smearBeginning_11 ?_
  exact W.lret (v := ((((p0).toInt64 + (1 : Int64)) * (86400000000 : Int64)) - (20000000000 : Int64))) hx hb hr (fun t ht hW => ⟨_, rfl, hv.symm.trans eV, ht⟩) (fun q h => nomatch h) dX0_smearBeginning_12
def f_X0_clear (M : Mem)  : Mem := bnd (sI M (6) (0 : Int32)) fun M_1 => bnd (sI M_1 (7) (0 : Int32)) fun M_2 => M_2
theorem hyX0_clear : yX0_clear.cls ≠ "java/lang/invoke/MethodHandle" ∧ yX0_clear.cls ≠ "java/lang/invoke/VarHandle" ∧ (parseMethodDescriptor yX0_clear.desc).map (fun d => d.parameters.length) = some 0 := by decide +kernel
set_option maxHeartbeats 4000000 in
set_option maxRecDepth 100000 in
theorem c_X0_clear (l : Launch) (dC : Nat → ClassId) (dI : Nat → Nat → Nat) (cA : Nat → ClassId) (ad : Nat → Nat) (hI : Inj 69 ad) (M : Mem)   : Met l yX0_clear (.code yX0_clear cX0_clear 1 none :: AG) ({ frames := 0, cells := 0, slots := 0, locals := 0 } : Room) (va_Pc [.ref (ad (2))] (PC dC dI cA ad M)) (va_Qv (fun u => u = f_X0_clear M ) (PC dC dI cA ad) (adS 69 ad)) 0 0 (adS 69 ad) := by
  refine cMet (by decide) (Nat.le_of_ble_eq_true rfl) ?_
  intro p e s m below meth c ls hx hb hr hml hlocks hown hts hK hP hS hl
  have hA : ∀ q, adS 69 ad q → adS 69 ad q := fun _ h => h
  have hl : lv_has ls 1 [(0, .ref (ad (2)))] := hl
  obtain ⟨V, eV⟩ : ∃ z, z = f_X0_clear M  := ⟨_, rfl⟩
  have hv := eV
  unfold f_X0_clear at hv
  refine lv_aload_n hx hb dX0_clear_0 rfl (lv_at hl 0 rfl) ?_
  refine lv_iconst (v := 0) hx hb dX0_clear_1 (by decide) ?_
  refine fp_X0_13 hx hb hts hK hP hI hS hA hown dX0_clear_2 (fun H locs hP hS => ?_)
  obtain ⟨M_1, eM_1⟩ : ∃ z : Mem, z = sI M (6) (0 : Int32) := ⟨_, rfl⟩
  rw [← eM_1] at hP
  have hv := bnd_name hv eM_1
  refine lv_aload_n hx hb dX0_clear_5 rfl (lv_at hl 0 rfl) ?_
  refine lv_iconst (v := 0) hx hb dX0_clear_6 (by decide) ?_
  refine fp_X0_17 hx hb hts hK hP hI hS hA hown dX0_clear_7 (fun H locs hP hS => ?_)
  obtain ⟨M_2, eM_2⟩ : ∃ z : Mem, z = sI M_1 (7) (0 : Int32) := ⟨_, rfl⟩
  rw [← eM_2] at hP
  have hv := bnd_name hv eM_2
  exact W.vret hx hb hr (fun t ht hW => ⟨⟨M_2, rfl, hv.symm.trans eV, by rw [ht]; exact hP, va_K.moved hW.alike hK⟩, hS.F ht⟩) hS.2.2 dX0_clear_10
def f_X0_isAnnounced (M : Mem) (p0 : Int32) : Int32 := bnd ((f_X0_contains (gI M (6) ||| gI M (7)) p0)) fun x_1 => x_1
theorem hyX0_isAnnounced : yX0_isAnnounced.cls ≠ "java/lang/invoke/MethodHandle" ∧ yX0_isAnnounced.cls ≠ "java/lang/invoke/VarHandle" ∧ (parseMethodDescriptor yX0_isAnnounced.desc).map (fun d => d.parameters.length) = some 1 := by decide +kernel
set_option maxHeartbeats 4000000 in
set_option maxRecDepth 100000 in
theorem c_X0_isAnnounced (l : Launch) (dC : Nat → ClassId) (dI : Nat → Nat → Nat) (cA : Nat → ClassId) (ad : Nat → Nat) (hI : Inj 69 ad) (M : Mem) (p0 : Int32)  : Met l yX0_isAnnounced (.code yX0_isAnnounced cX0_isAnnounced 2 (some .boolean) :: AG) ({ frames := 1, cells := 0, slots := 0, locals := 21 } : Room) (va_Pc [.ref (ad (2)), .int p0] (PC dC dI cA ad M)) (va_Qi (fun r u => r = f_X0_isAnnounced M p0 ∧ u = M) (PC dC dI cA ad) (adS 69 ad)) 0 0 (adS 69 ad) := by
  refine cMet (by decide) (Nat.le_of_ble_eq_true rfl) ?_
  intro p e s m below meth c ls hx hb hr hml hlocks hown hts hK hP hS hl
  have hA : ∀ q, adS 69 ad q → adS 69 ad q := fun _ h => h
  have hl : lv_has ls 2 [(0, .ref (ad (2))), (1, .int p0)] := hl
  obtain ⟨V, eV⟩ : ∃ z, z = f_X0_isAnnounced M p0 := ⟨_, rfl⟩
  have hv := eV
  unfold f_X0_isAnnounced at hv
  refine lv_aload_n hx hb dX0_isAnnounced_0 rfl (lv_at hl 0 rfl) ?_
  refine fg_X0_13 hx hb hts hK hP hown dX0_isAnnounced_1 ?_
  refine lv_aload_n hx hb dX0_isAnnounced_4 rfl (lv_at hl 0 rfl) ?_
  refine fg_X0_17 hx hb hts hK hP hown dX0_isAnnounced_5 ?_
  refine lv_ior hx hb dX0_isAnnounced_8 ?_
  refine lv_iload_n hx hb dX0_isAnnounced_9 rfl (lv_at hl 1 rfl) ?_
  refine kSi hx hb hml hown hts (As := [.int (gI M (6) ||| gI M (7)), .int p0]) (rest := []) (c_X0_contains l (gI M (6) ||| gI M (7)) p0 ) (mkS hts q_273 q_49 q_271 q_272 hyX0_contains rfl rfl ⟨(Nat.le_of_ble_eq_true rfl), (Nat.le_of_ble_eq_true rfl)⟩) rfl hl.1 rfl (Nat.le_of_ble_eq_true rfl) dX0_isAnnounced_10 ⟨(Nat.le_of_ble_eq_true rfl), (Nat.le_of_ble_eq_true rfl)⟩ ?_
  refine lv_topi (fun x_1 ex_1 => ?_)
  have hv := bnd_name hv ex_1
  have bx_1 : x_1 = 0 ∨ x_1 = 1 := by rw [ex_1]; exact f_X0_contains_b (gI M (6) ||| gI M (7)) p0
  exact W.zret (v := x_1) hx hb hr (nar_b bx_1) (fun t ht hW => ⟨⟨_, M, rfl, ⟨hv.symm.trans eV, rfl⟩, by rw [ht]; exact hP, va_K.moved hW.alike hK⟩, hS.F ht⟩) hS.2.2 dX0_isAnnounced_13
theorem f_X0_isAnnounced_b (M : Mem) (p0 : Int32) : (f_X0_isAnnounced M p0) = 0 ∨ (f_X0_isAnnounced M p0) = 1 := by
  unfold f_X0_isAnnounced
  repeat' (first | with_reducible refine bnd_id (by apply f_X0_contains_b) | with_reducible refine bnd_or (fun _ => ?_) | with_reducible refine bnd2_or (fun _ _ => ?_) | with_reducible refine ite_or ?_ ?_ | exact Or.inl rfl | exact Or.inr rfl)
def f_X0_announce (M : Mem) (p0 : Int32) (p1 : Int32) : Mem := if p1 = (0 : Int32) then bnd (sI M (7) (gI M (7) ||| ((1 : Int32) <<< (p0 &&& 31)))) fun M_2 => M_2 else bnd (sI M (6) (gI M (6) ||| ((1 : Int32) <<< (p0 &&& 31)))) fun M_3 => M_3
theorem hyX0_announce : yX0_announce.cls ≠ "java/lang/invoke/MethodHandle" ∧ yX0_announce.cls ≠ "java/lang/invoke/VarHandle" ∧ (parseMethodDescriptor yX0_announce.desc).map (fun d => d.parameters.length) = some 2 := by decide +kernel
set_option maxHeartbeats 4000000 in
set_option maxRecDepth 100000 in
theorem c_X0_announce (l : Launch) (dC : Nat → ClassId) (dI : Nat → Nat → Nat) (cA : Nat → ClassId) (ad : Nat → Nat) (hI : Inj 69 ad) (M : Mem) (p0 : Int32) (p1 : Int32)  : Met l yX0_announce (.code yX0_announce cX0_announce 3 none :: AG) ({ frames := 0, cells := 0, slots := 0, locals := 0 } : Room) (va_Pc [.ref (ad (2)), .int p0, .int p1] (PC dC dI cA ad M)) (va_Qv (fun u => u = f_X0_announce M p0 p1) (PC dC dI cA ad) (adS 69 ad)) 0 0 (adS 69 ad) := by
  refine cMet (by decide) (Nat.le_of_ble_eq_true rfl) ?_
  intro p e s m below meth c ls hx hb hr hml hlocks hown hts hK hP hS hl
  have hA : ∀ q, adS 69 ad q → adS 69 ad q := fun _ h => h
  have hl : lv_has ls 3 [(0, .ref (ad (2))), (1, .int p0), (2, .int p1)] := hl
  obtain ⟨V, eV⟩ : ∃ z, z = f_X0_announce M p0 p1 := ⟨_, rfl⟩
  have hv := eV
  unfold f_X0_announce at hv
  refine lv_iload_n hx hb dX0_announce_0 rfl (lv_at hl 2 rfl) ?_
  refine j0_eq (tgt := 19) hx hb dX0_announce_1 (by decide) (fun c_1 => ?_) (fun c_1 => ?_)
  · have hv := hv.trans (if_pos c_1)
    refine lv_aload_n hx hb dX0_announce_19 rfl (lv_at hl 0 rfl) ?_
    refine lv_dup hx hb dX0_announce_20 rfl ?_
    refine fg_X0_17 hx hb hts hK hP hown dX0_announce_21 ?_
    refine lv_iconst (v := 1) hx hb dX0_announce_24 (by decide) ?_
    refine lv_iload_n hx hb dX0_announce_25 rfl (lv_at hl 1 rfl) ?_
    refine lv_ishl hx hb dX0_announce_26 ?_
    refine lv_ior hx hb dX0_announce_27 ?_
    refine fp_X0_17 hx hb hts hK hP hI hS hA hown dX0_announce_28 (fun H locs hP hS => ?_)
    obtain ⟨M_2, eM_2⟩ : ∃ z : Mem, z = sI M (7) (gI M (7) ||| ((1 : Int32) <<< (p0 &&& 31))) := ⟨_, rfl⟩
    rw [← eM_2] at hP
    have hv := bnd_name hv eM_2
    exact W.vret hx hb hr (fun t ht hW => ⟨⟨M_2, rfl, hv.symm.trans eV, by rw [ht]; exact hP, va_K.moved hW.alike hK⟩, hS.F ht⟩) hS.2.2 dX0_announce_31
  · have hv := hv.trans (if_neg c_1)
    refine lv_aload_n hx hb dX0_announce_4 rfl (lv_at hl 0 rfl) ?_
    refine lv_dup hx hb dX0_announce_5 rfl ?_
    refine fg_X0_13 hx hb hts hK hP hown dX0_announce_6 ?_
    refine lv_iconst (v := 1) hx hb dX0_announce_9 (by decide) ?_
    refine lv_iload_n hx hb dX0_announce_10 rfl (lv_at hl 1 rfl) ?_
    refine lv_ishl hx hb dX0_announce_11 ?_
    refine lv_ior hx hb dX0_announce_12 ?_
    refine fp_X0_13 hx hb hts hK hP hI hS hA hown dX0_announce_13 (fun H locs hP hS => ?_)
    obtain ⟨M_3, eM_3⟩ : ∃ z : Mem, z = sI M (6) (gI M (6) ||| ((1 : Int32) <<< (p0 &&& 31))) := ⟨_, rfl⟩
    rw [← eM_3] at hP
    have hv := bnd_name hv eM_3
    refine lv_goto (tgt := 31) hx hb dX0_announce_16 (by decide) ?_
    exact W.vret hx hb hr (fun t ht hW => ⟨⟨M_3, rfl, hv.symm.trans eV, by rw [ht]; exact hP, va_K.moved hW.alike hK⟩, hS.F ht⟩) hS.2.2 dX0_announce_31
def f_X0_partCome (p0 : Int32) (p1 : Int64) : Int64 := bnd ((f_X0_smearBeginning p0)) fun x_1 => bnd ((p1 - x_1)) fun x_2 => if x_2 < (0 : Int64) then (0 : Int64) else if x_2 < (20000000000 : Int64) then (x_2 / (20000 : Int64)) else (1000000 : Int64)
theorem hyX0_partCome : yX0_partCome.cls ≠ "java/lang/invoke/MethodHandle" ∧ yX0_partCome.cls ≠ "java/lang/invoke/VarHandle" ∧ (parseMethodDescriptor yX0_partCome.desc).map (fun d => d.parameters.length) = some 2 := by decide +kernel
set_option maxHeartbeats 4000000 in
set_option maxRecDepth 100000 in
theorem c_X0_partCome (l : Launch) (p0 : Int32) (p1 : Int64)  : Met l yX0_partCome (.code yX0_partCome cX0_partCome 5 (some .long) :: AG) ({ frames := 1, cells := 0, slots := 0, locals := 20 } : Room) (fun v _ => v = ([.int p0, .long p1] : List Value).toArray) (vp_Sl (fun r => r = f_X0_partCome p0 p1)) 0 0 (fun _ => False) := by
  refine sMet (by decide) (Nat.le_of_ble_eq_true rfl) ?_
  intro p e s m below meth c ls hx hb hr hml hlocks hown hts hl
  have hl : lv_has ls 5 [(0, .int p0), (1, .long p1)] := hl
  obtain ⟨V, eV⟩ : ∃ z, z = f_X0_partCome p0 p1 := ⟨_, rfl⟩
  have hv := eV
  unfold f_X0_partCome at hv
  refine lv_lload_n hx hb dX0_partCome_0 rfl (lv_at hl 1 rfl) ?_
  refine lv_iload_n hx hb dX0_partCome_1 rfl (lv_at hl 0 rfl) ?_
  refine kSl hx hb hml hown hts (As := [.int p0]) (rest := [.long p1]) (c_X0_smearBeginning l p0 ) (mkS hts q_279 q_49 q_277 q_278 hyX0_smearBeginning rfl rfl ⟨(Nat.le_of_ble_eq_true rfl), (Nat.le_of_ble_eq_true rfl)⟩) rfl hl.1 rfl (Nat.le_of_ble_eq_true rfl) dX0_partCome_2 ⟨(Nat.le_of_ble_eq_true rfl), (Nat.le_of_ble_eq_true rfl)⟩ ?_
  refine lv_topl (fun x_1 ex_1 => ?_)
  have hv := bnd_name hv ex_1
  refine lv_lsub hx hb dX0_partCome_5 ?_
  refine lv_topl (fun x_2 ex_2 => ?_)
  have hv := bnd_name hv ex_2
  refine lv_lstore_n (lv' := [(3, .long x_2), (0, .int p0), (1, .long p1)]) hx hb dX0_partCome_6 rfl hl (by decide) rfl (fun ls hl => ?_)
  refine lv_lload_n hx hb dX0_partCome_7 rfl (lv_at hl 0 rfl) ?_
  refine lv_lconst (v := 0) hx hb dX0_partCome_8 (by decide) ?_
  refine jL_ge (tgt := 15) hx hb dX0_partCome_9 dX0_partCome_10 (by decide) (fun c_3 => ?_) (fun c_3 => ?_)
  · have hv := hv.trans (if_pos c_3)
    refine lv_lconst (v := 0) hx hb dX0_partCome_13 (by decide) ?_
    exact W.lret (v := (0 : Int64)) hx hb hr (fun t ht hW => ⟨_, rfl, hv.symm.trans eV, ht⟩) (fun q h => nomatch h) dX0_partCome_14
  · have hv := hv.trans (if_neg c_3)
    refine lv_lload_n hx hb dX0_partCome_15 rfl (lv_at hl 0 rfl) ?_
    refine lv_ldc2 (v := 20000000000) hx hb hown (hts _ q_281) dX0_partCome_16 ?_
    refine jL_ge (tgt := 31) hx hb dX0_partCome_19 dX0_partCome_20 (by decide) (fun c_4 => ?_) (fun c_4 => ?_)
    · have hv := hv.trans (if_pos c_4)
      refine lv_lload_n hx hb dX0_partCome_23 rfl (lv_at hl 0 rfl) ?_
      refine lv_ldc2 (v := 20000) hx hb hown (hts _ q_282) dX0_partCome_24 ?_
      refine lv_ldiv hx hb dX0_partCome_27 (by decide) ?_
      refine lv_goto (tgt := 34) hx hb dX0_partCome_28 (by decide) ?_
      exact W.lret (v := (x_2 / (20000 : Int64))) hx hb hr (fun t ht hW => ⟨_, rfl, hv.symm.trans eV, ht⟩) (fun q h => nomatch h) dX0_partCome_34
    · have hv := hv.trans (if_neg c_4)
      refine lv_ldc2 (v := 1000000) hx hb hown (hts _ q_283) dX0_partCome_31 ?_
      exact W.lret (v := (1000000 : Int64)) hx hb hr (fun t ht hW => ⟨_, rfl, hv.symm.trans eV, ht⟩) (fun q h => nomatch h) dX0_partCome_34
def f_X1_begin (M : Mem) (p0 : Int32) : Mem := bnd (sL M (2) ((p0).toInt64 * (1000000 : Int64))) fun M_1 => bnd (sL M_1 (3) (0 : Int64)) fun M_2 => bnd (sI M_2 (4) (0 : Int32)) fun M_3 => bnd (sI M_3 (5) (0 : Int32)) fun M_4 => M_4
theorem hyX1_begin : yX1_begin.cls ≠ "java/lang/invoke/MethodHandle" ∧ yX1_begin.cls ≠ "java/lang/invoke/VarHandle" ∧ (parseMethodDescriptor yX1_begin.desc).map (fun d => d.parameters.length) = some 1 := by decide +kernel
set_option maxHeartbeats 4000000 in
set_option maxRecDepth 100000 in
theorem c_X1_begin (l : Launch) (dC : Nat → ClassId) (dI : Nat → Nat → Nat) (cA : Nat → ClassId) (ad : Nat → Nat) (hI : Inj 69 ad) (M : Mem) (p0 : Int32)  : Met l yX1_begin (.code yX1_begin cX1_begin 2 none :: AG) ({ frames := 0, cells := 0, slots := 0, locals := 0 } : Room) (va_Pc [.ref (ad (1)), .int p0] (PC dC dI cA ad M)) (va_Qv (fun u => u = f_X1_begin M p0) (PC dC dI cA ad) (adS 69 ad)) 0 0 (adS 69 ad) := by
  refine cMet (by decide) (Nat.le_of_ble_eq_true rfl) ?_
  intro p e s m below meth c ls hx hb hr hml hlocks hown hts hK hP hS hl
  have hA : ∀ q, adS 69 ad q → adS 69 ad q := fun _ h => h
  have hl : lv_has ls 2 [(0, .ref (ad (1))), (1, .int p0)] := hl
  obtain ⟨V, eV⟩ : ∃ z, z = f_X1_begin M p0 := ⟨_, rfl⟩
  have hv := eV
  unfold f_X1_begin at hv
  refine lv_aload_n hx hb dX1_begin_0 rfl (lv_at hl 0 rfl) ?_
  refine lv_iload_n hx hb dX1_begin_1 rfl (lv_at hl 1 rfl) ?_
  refine lv_i2l (v := (p0).toInt64) hx hb dX1_begin_2 rfl ?_
  refine lv_ldc2 (v := 1000000) hx hb hown (hts _ q_192) dX1_begin_3 ?_
  refine lv_lmul hx hb dX1_begin_6 ?_
  refine fp_X1_11 hx hb hts hK hP hI hS hA hown dX1_begin_7 (fun H locs hP hS => ?_)
  obtain ⟨M_1, eM_1⟩ : ∃ z : Mem, z = sL M (2) ((p0).toInt64 * (1000000 : Int64)) := ⟨_, rfl⟩
  rw [← eM_1] at hP
  have hv := bnd_name hv eM_1
  refine lv_aload_n hx hb dX1_begin_10 rfl (lv_at hl 0 rfl) ?_
  refine lv_lconst (v := 0) hx hb dX1_begin_11 (by decide) ?_
  refine fp_X1_17 hx hb hts hK hP hI hS hA hown dX1_begin_12 (fun H locs hP hS => ?_)
  obtain ⟨M_2, eM_2⟩ : ∃ z : Mem, z = sL M_1 (3) (0 : Int64) := ⟨_, rfl⟩
  rw [← eM_2] at hP
  have hv := bnd_name hv eM_2
  refine lv_aload_n hx hb dX1_begin_15 rfl (lv_at hl 0 rfl) ?_
  refine lv_iconst (v := 0) hx hb dX1_begin_16 (by decide) ?_
  refine fp_X1_20 hx hb hts hK hP hI hS hA hown dX1_begin_17 (fun H locs hP hS => ?_)
  obtain ⟨M_3, eM_3⟩ : ∃ z : Mem, z = sI M_2 (4) (0 : Int32) := ⟨_, rfl⟩
  rw [← eM_3] at hP
  have hv := bnd_name hv eM_3
  refine lv_aload_n hx hb dX1_begin_20 rfl (lv_at hl 0 rfl) ?_
  refine lv_iconst (v := 0) hx hb dX1_begin_21 (by decide) ?_
  refine fp_X1_24 hx hb hts hK hP hI hS hA hown dX1_begin_22 (fun H locs hP hS => ?_)
  obtain ⟨M_4, eM_4⟩ : ∃ z : Mem, z = sI M_3 (5) (0 : Int32) := ⟨_, rfl⟩
  rw [← eM_4] at hP
  have hv := bnd_name hv eM_4
  exact W.vret hx hb hr (fun t ht hW => ⟨⟨M_4, rfl, hv.symm.trans eV, by rw [ht]; exact hP, va_K.moved hW.alike hK⟩, hS.F ht⟩) hS.2.2 dX1_begin_25
def f_X1_reading (M : Mem)  : Int64 := bnd ((f_J9_floorDiv_f86c9 (gL M (2)) (1000000 : Int64))) fun x_1 => x_1
theorem hyX1_reading : yX1_reading.cls ≠ "java/lang/invoke/MethodHandle" ∧ yX1_reading.cls ≠ "java/lang/invoke/VarHandle" ∧ (parseMethodDescriptor yX1_reading.desc).map (fun d => d.parameters.length) = some 0 := by decide +kernel
set_option maxHeartbeats 4000000 in
set_option maxRecDepth 100000 in
theorem c_X1_reading (l : Launch) (dC : Nat → ClassId) (dI : Nat → Nat → Nat) (cA : Nat → ClassId) (ad : Nat → Nat) (hI : Inj 69 ad) (M : Mem)   : Met l yX1_reading (.code yX1_reading cX1_reading 1 (some .long) :: AG) ({ frames := 1, cells := 0, slots := 0, locals := 25 } : Room) (va_Pc [.ref (ad (1))] (PC dC dI cA ad M)) (va_Ql (fun r u => r = f_X1_reading M  ∧ u = M) (PC dC dI cA ad) (adS 69 ad)) 0 0 (adS 69 ad) := by
  refine cMet (by decide) (Nat.le_of_ble_eq_true rfl) ?_
  intro p e s m below meth c ls hx hb hr hml hlocks hown hts hK hP hS hl
  have hA : ∀ q, adS 69 ad q → adS 69 ad q := fun _ h => h
  have hl : lv_has ls 1 [(0, .ref (ad (1)))] := hl
  obtain ⟨V, eV⟩ : ∃ z, z = f_X1_reading M  := ⟨_, rfl⟩
  have hv := eV
  unfold f_X1_reading at hv
  refine lv_aload_n hx hb dX1_reading_0 rfl (lv_at hl 0 rfl) ?_
  refine fg_X1_11 hx hb hts hK hP hown dX1_reading_1 ?_
  refine lv_ldc2 (v := 1000000) hx hb hown (hts _ q_192) dX1_reading_4 ?_
  refine kSl hx hb hml hown hts (As := [.long (gL M (2)), .long (1000000 : Int64)]) (rest := []) (c_J9_floorDiv_f86c9 l (gL M (2)) (1000000 : Int64) (by decide)) (mkS hts q_242 q_59 q_240 q_241 hyJ9_floorDiv_f86c9 rfl rfl ⟨(Nat.le_of_ble_eq_true rfl), (Nat.le_of_ble_eq_true rfl)⟩) rfl hl.1 rfl (Nat.le_of_ble_eq_true rfl) dX1_reading_7 ⟨(Nat.le_of_ble_eq_true rfl), (Nat.le_of_ble_eq_true rfl)⟩ ?_
  refine lv_topl (fun x_1 ex_1 => ?_)
  have hv := bnd_name hv ex_1
  exact W.lret (v := x_1) hx hb hr (fun t ht hW => ⟨⟨_, M, rfl, ⟨hv.symm.trans eV, rfl⟩, by rw [ht]; exact hP, va_K.moved hW.alike hK⟩, hS.F ht⟩) hS.2.2 dX1_reading_10
def f_X1_pendingMicros (M : Mem)  : Int64 := (gL M (3) / (1000000 : Int64))
theorem hyX1_pendingMicros : yX1_pendingMicros.cls ≠ "java/lang/invoke/MethodHandle" ∧ yX1_pendingMicros.cls ≠ "java/lang/invoke/VarHandle" ∧ (parseMethodDescriptor yX1_pendingMicros.desc).map (fun d => d.parameters.length) = some 0 := by decide +kernel
set_option maxHeartbeats 4000000 in
set_option maxRecDepth 100000 in
theorem c_X1_pendingMicros (l : Launch) (dC : Nat → ClassId) (dI : Nat → Nat → Nat) (cA : Nat → ClassId) (ad : Nat → Nat) (hI : Inj 69 ad) (M : Mem)   : Met l yX1_pendingMicros (.code yX1_pendingMicros cX1_pendingMicros 1 (some .long) :: AG) ({ frames := 0, cells := 0, slots := 0, locals := 0 } : Room) (va_Pc [.ref (ad (1))] (PC dC dI cA ad M)) (va_Ql (fun r u => r = f_X1_pendingMicros M  ∧ u = M) (PC dC dI cA ad) (adS 69 ad)) 0 0 (adS 69 ad) := by
  refine cMet (by decide) (Nat.le_of_ble_eq_true rfl) ?_
  intro p e s m below meth c ls hx hb hr hml hlocks hown hts hK hP hS hl
  have hA : ∀ q, adS 69 ad q → adS 69 ad q := fun _ h => h
  have hl : lv_has ls 1 [(0, .ref (ad (1)))] := hl
  obtain ⟨V, eV⟩ : ∃ z, z = f_X1_pendingMicros M  := ⟨_, rfl⟩
  have hv := eV
  unfold f_X1_pendingMicros at hv
  refine lv_aload_n hx hb dX1_pendingMicros_0 rfl (lv_at hl 0 rfl) ?_
  refine fg_X1_17 hx hb hts hK hP hown dX1_pendingMicros_1 ?_
  refine lv_ldc2 (v := 1000000) hx hb hown (hts _ q_192) dX1_pendingMicros_4 ?_
  refine lv_ldiv hx hb dX1_pendingMicros_7 (by decide) ?_
  exact W.lret (v := (gL M (3) / (1000000 : Int64))) hx hb hr (fun t ht hW => ⟨⟨_, M, rfl, ⟨hv.symm.trans eV, rfl⟩, by rw [ht]; exact hP, va_K.moved hW.alike hK⟩, hS.F ht⟩) hS.2.2 dX1_pendingMicros_8
def f_X1_presentCorrection (M : Mem)  : Int32 := gI M (5)
theorem hyX1_presentCorrection : yX1_presentCorrection.cls ≠ "java/lang/invoke/MethodHandle" ∧ yX1_presentCorrection.cls ≠ "java/lang/invoke/VarHandle" ∧ (parseMethodDescriptor yX1_presentCorrection.desc).map (fun d => d.parameters.length) = some 0 := by decide +kernel
set_option maxHeartbeats 4000000 in
set_option maxRecDepth 100000 in
theorem c_X1_presentCorrection (l : Launch) (dC : Nat → ClassId) (dI : Nat → Nat → Nat) (cA : Nat → ClassId) (ad : Nat → Nat) (hI : Inj 69 ad) (M : Mem)   : Met l yX1_presentCorrection (.code yX1_presentCorrection cX1_presentCorrection 1 (some .int) :: AG) ({ frames := 0, cells := 0, slots := 0, locals := 0 } : Room) (va_Pc [.ref (ad (1))] (PC dC dI cA ad M)) (va_Qi (fun r u => r = f_X1_presentCorrection M  ∧ u = M) (PC dC dI cA ad) (adS 69 ad)) 0 0 (adS 69 ad) := by
  refine cMet (by decide) (Nat.le_of_ble_eq_true rfl) ?_
  intro p e s m below meth c ls hx hb hr hml hlocks hown hts hK hP hS hl
  have hA : ∀ q, adS 69 ad q → adS 69 ad q := fun _ h => h
  have hl : lv_has ls 1 [(0, .ref (ad (1)))] := hl
  obtain ⟨V, eV⟩ : ∃ z, z = f_X1_presentCorrection M  := ⟨_, rfl⟩
  have hv := eV
  unfold f_X1_presentCorrection at hv
  refine lv_aload_n hx hb dX1_presentCorrection_0 rfl (lv_at hl 0 rfl) ?_
  refine fg_X1_24 hx hb hts hK hP hown dX1_presentCorrection_1 ?_
  exact W.iret (v := gI M (5)) hx hb hr (fun t ht hW => ⟨⟨_, M, rfl, ⟨hv.symm.trans eV, rfl⟩, by rw [ht]; exact hP, va_K.moved hW.alike hK⟩, hS.F ht⟩) hS.2.2 dX1_presentCorrection_4
def f_X1_changeDrift (M : Mem) (p0 : Int32) : Int32 × Mem := bnd (gI M (4)) fun x_1 => bnd (sI M (4) p0) fun M_2 => (x_1, M_2)
theorem hyX1_changeDrift : yX1_changeDrift.cls ≠ "java/lang/invoke/MethodHandle" ∧ yX1_changeDrift.cls ≠ "java/lang/invoke/VarHandle" ∧ (parseMethodDescriptor yX1_changeDrift.desc).map (fun d => d.parameters.length) = some 1 := by decide +kernel
set_option maxHeartbeats 4000000 in
set_option maxRecDepth 100000 in
theorem c_X1_changeDrift (l : Launch) (dC : Nat → ClassId) (dI : Nat → Nat → Nat) (cA : Nat → ClassId) (ad : Nat → Nat) (hI : Inj 69 ad) (M : Mem) (p0 : Int32)  : Met l yX1_changeDrift (.code yX1_changeDrift cX1_changeDrift 3 (some .int) :: AG) ({ frames := 0, cells := 0, slots := 0, locals := 0 } : Room) (va_Pc [.ref (ad (1)), .int p0] (PC dC dI cA ad M)) (va_Qi (fun r u => (r, u) = f_X1_changeDrift M p0) (PC dC dI cA ad) (adS 69 ad)) 0 0 (adS 69 ad) := by
  refine cMet (by decide) (Nat.le_of_ble_eq_true rfl) ?_
  intro p e s m below meth c ls hx hb hr hml hlocks hown hts hK hP hS hl
  have hA : ∀ q, adS 69 ad q → adS 69 ad q := fun _ h => h
  have hl : lv_has ls 3 [(0, .ref (ad (1))), (1, .int p0)] := hl
  obtain ⟨V, eV⟩ : ∃ z, z = f_X1_changeDrift M p0 := ⟨_, rfl⟩
  have hv := eV
  unfold f_X1_changeDrift at hv
  refine lv_aload_n hx hb dX1_changeDrift_0 rfl (lv_at hl 0 rfl) ?_
  refine fg_X1_20 hx hb hts hK hP hown dX1_changeDrift_1 ?_
  refine lv_topi (fun x_1 ex_1 => ?_)
  have hv := bnd_name hv ex_1
  refine lv_istore_n (lv' := [(2, .int x_1), (0, .ref (ad (1))), (1, .int p0)]) hx hb dX1_changeDrift_4 rfl hl (by decide) rfl (fun ls hl => ?_)
  refine lv_aload_n hx hb dX1_changeDrift_5 rfl (lv_at hl 1 rfl) ?_
  refine lv_iload_n hx hb dX1_changeDrift_6 rfl (lv_at hl 2 rfl) ?_
  refine fp_X1_20 hx hb hts hK hP hI hS hA hown dX1_changeDrift_7 (fun H locs hP hS => ?_)
  obtain ⟨M_2, eM_2⟩ : ∃ z : Mem, z = sI M (4) p0 := ⟨_, rfl⟩
  rw [← eM_2] at hP
  have hv := bnd_name hv eM_2
  refine lv_iload_n hx hb dX1_changeDrift_10 rfl (lv_at hl 0 rfl) ?_
  exact W.iret (v := x_1) hx hb hr (fun t ht hW => ⟨⟨_, M_2, rfl, hv.symm.trans eV, by rw [ht]; exact hP, va_K.moved hW.alike hK⟩, hS.F ht⟩) hS.2.2 dX1_changeDrift_11
def f_X1_elapse (M : Mem) (p0 : Int32) : Mem := bnd (((500 : Int64) * (p0).toInt64)) fun x_1 => bnd ((if gL M (3) < x_1 then gL M (3) else x_1)) fun x_2 => bnd ((if x_2 < (-x_1) then (-x_1) else x_2)) fun x_3 => bnd (sL M (2) (gL M (2) + (((p0).toInt64 * (((1000000 : Int64) + (gI M (4)).toInt64) + (gI M (5)).toInt64)) + x_3))) fun M_4 => bnd (sL M_4 (3) (gL M_4 (3) - x_3)) fun M_5 => M_5
theorem hyX1_elapse : yX1_elapse.cls ≠ "java/lang/invoke/MethodHandle" ∧ yX1_elapse.cls ≠ "java/lang/invoke/VarHandle" ∧ (parseMethodDescriptor yX1_elapse.desc).map (fun d => d.parameters.length) = some 1 := by decide +kernel
set_option maxHeartbeats 4000000 in
set_option maxRecDepth 100000 in
theorem c_X1_elapse (l : Launch) (dC : Nat → ClassId) (dI : Nat → Nat → Nat) (cA : Nat → ClassId) (ad : Nat → Nat) (hI : Inj 69 ad) (M : Mem) (p0 : Int32)  : Met l yX1_elapse (.code yX1_elapse cX1_elapse 6 none :: AG) ({ frames := 1, cells := 0, slots := 0, locals := 23 } : Room) (va_Pc [.ref (ad (1)), .int p0] (PC dC dI cA ad M)) (va_Qv (fun u => u = f_X1_elapse M p0) (PC dC dI cA ad) (adS 69 ad)) 0 0 (adS 69 ad) := by
  refine cMet (by decide) (Nat.le_of_ble_eq_true rfl) ?_
  intro p e s m below meth c ls hx hb hr hml hlocks hown hts hK hP hS hl
  have hA : ∀ q, adS 69 ad q → adS 69 ad q := fun _ h => h
  have hl : lv_has ls 6 [(0, .ref (ad (1))), (1, .int p0)] := hl
  obtain ⟨V, eV⟩ : ∃ z, z = f_X1_elapse M p0 := ⟨_, rfl⟩
  have hv := eV
  unfold f_X1_elapse at hv
  refine lv_ldc2 (v := 500) hx hb hown (hts _ q_560) dX1_elapse_0 ?_
  refine lv_iload_n hx hb dX1_elapse_3 rfl (lv_at hl 1 rfl) ?_
  refine lv_i2l (v := (p0).toInt64) hx hb dX1_elapse_4 rfl ?_
  refine lv_lmul hx hb dX1_elapse_5 ?_
  refine lv_topl (fun x_1 ex_1 => ?_)
  have hv := bnd_name hv ex_1
  refine lv_lstore_n (lv' := [(2, .long x_1), (0, .ref (ad (1))), (1, .int p0)]) hx hb dX1_elapse_6 rfl hl (by decide) rfl (fun ls hl => ?_)
  refine lv_lload_n hx hb dX1_elapse_7 rfl (lv_at hl 0 rfl) ?_
  refine lv_lneg hx hb dX1_elapse_8 ?_
  refine lv_lload_n hx hb dX1_elapse_9 rfl (lv_at hl 0 rfl) ?_
  refine lv_aload_n hx hb dX1_elapse_10 rfl (lv_at hl 1 rfl) ?_
  refine fg_X1_17 hx hb hts hK hP hown dX1_elapse_11 ?_
  refine va_mmin_long hx hb (hml.trans hl.1.symm) hown (hts _ q_561) (hts _ q_562) (hts _ q_59) (hts _ q_563) (Nat.le_of_ble_eq_true rfl) (Nat.le_of_ble_eq_true rfl) (Nat.le_of_ble_eq_true rfl) (Nat.le_of_ble_eq_true rfl) dX1_elapse_14 ?_
  refine lv_topl (fun x_2 ex_2 => ?_)
  have hv := bnd_name hv ex_2
  refine va_mmax_long hx hb (hml.trans hl.1.symm) hown (hts _ q_564) (hts _ q_565) (hts _ q_59) (hts _ q_566) (Nat.le_of_ble_eq_true rfl) (Nat.le_of_ble_eq_true rfl) (Nat.le_of_ble_eq_true rfl) (Nat.le_of_ble_eq_true rfl) dX1_elapse_17 ?_
  refine lv_topl (fun x_3 ex_3 => ?_)
  have hv := bnd_name hv ex_3
  refine lv_lstore (lv' := [(4, .long x_3), (2, .long x_1), (0, .ref (ad (1))), (1, .int p0)]) hx hb dX1_elapse_20 hl (by decide) rfl (fun ls hl => ?_)
  refine lv_aload_n hx hb dX1_elapse_22 rfl (lv_at hl 2 rfl) ?_
  refine lv_dup hx hb dX1_elapse_23 rfl ?_
  refine fg_X1_11 hx hb hts hK hP hown dX1_elapse_24 ?_
  refine lv_iload_n hx hb dX1_elapse_27 rfl (lv_at hl 3 rfl) ?_
  refine lv_i2l (v := (p0).toInt64) hx hb dX1_elapse_28 rfl ?_
  refine lv_ldc2 (v := 1000000) hx hb hown (hts _ q_192) dX1_elapse_29 ?_
  refine lv_aload_n hx hb dX1_elapse_32 rfl (lv_at hl 2 rfl) ?_
  refine fg_X1_20 hx hb hts hK hP hown dX1_elapse_33 ?_
  refine lv_i2l (v := (gI M (4)).toInt64) hx hb dX1_elapse_36 rfl ?_
  refine lv_ladd hx hb dX1_elapse_37 ?_
  refine lv_aload_n hx hb dX1_elapse_38 rfl (lv_at hl 2 rfl) ?_
  refine fg_X1_24 hx hb hts hK hP hown dX1_elapse_39 ?_
  refine lv_i2l (v := (gI M (5)).toInt64) hx hb dX1_elapse_42 rfl ?_
  refine lv_ladd hx hb dX1_elapse_43 ?_
  refine lv_lmul hx hb dX1_elapse_44 ?_
  refine lv_lload hx hb dX1_elapse_45 (lv_at hl 0 rfl) ?_
  refine lv_ladd hx hb dX1_elapse_47 ?_
  refine lv_ladd hx hb dX1_elapse_48 ?_
  refine fp_X1_11 hx hb hts hK hP hI hS hA hown dX1_elapse_49 (fun H locs hP hS => ?_)
  obtain ⟨M_4, eM_4⟩ : ∃ z : Mem, z = sL M (2) (gL M (2) + (((p0).toInt64 * (((1000000 : Int64) + (gI M (4)).toInt64) + (gI M (5)).toInt64)) + x_3)) := ⟨_, rfl⟩
  rw [← eM_4] at hP
  have hv := bnd_name hv eM_4
  refine lv_aload_n hx hb dX1_elapse_52 rfl (lv_at hl 2 rfl) ?_
  refine lv_dup hx hb dX1_elapse_53 rfl ?_
  refine fg_X1_17 hx hb hts hK hP hown dX1_elapse_54 ?_
  refine lv_lload hx hb dX1_elapse_57 (lv_at hl 0 rfl) ?_
  refine lv_lsub hx hb dX1_elapse_59 ?_
  refine fp_X1_17 hx hb hts hK hP hI hS hA hown dX1_elapse_60 (fun H locs hP hS => ?_)
  obtain ⟨M_5, eM_5⟩ : ∃ z : Mem, z = sL M_4 (3) (gL M_4 (3) - x_3) := ⟨_, rfl⟩
  rw [← eM_5] at hP
  have hv := bnd_name hv eM_5
  exact W.vret hx hb hr (fun t ht hW => ⟨⟨M_5, rfl, hv.symm.trans eV, by rw [ht]; exact hP, va_K.moved hW.alike hK⟩, hS.F ht⟩) hS.2.2 dX1_elapse_63
def f_X1_addCorrection (M : Mem) (p0 : Int64) : Mem := bnd (((gI M (5)).toInt64 + p0)) fun x_1 => bnd ((if x_1 < (500 : Int64) then x_1 else (500 : Int64))) fun x_2 => bnd ((if x_2 < ((-500) : Int64) then ((-500) : Int64) else x_2)) fun x_3 => bnd (sI M (5) ((x_3).toInt32)) fun M_4 => M_4
theorem hyX1_addCorrection : yX1_addCorrection.cls ≠ "java/lang/invoke/MethodHandle" ∧ yX1_addCorrection.cls ≠ "java/lang/invoke/VarHandle" ∧ (parseMethodDescriptor yX1_addCorrection.desc).map (fun d => d.parameters.length) = some 1 := by decide +kernel
set_option maxHeartbeats 4000000 in
set_option maxRecDepth 100000 in
theorem c_X1_addCorrection (l : Launch) (dC : Nat → ClassId) (dI : Nat → Nat → Nat) (cA : Nat → ClassId) (ad : Nat → Nat) (hI : Inj 69 ad) (M : Mem) (p0 : Int64)  : Met l yX1_addCorrection (.code yX1_addCorrection cX1_addCorrection 5 none :: AG) ({ frames := 1, cells := 0, slots := 0, locals := 23 } : Room) (va_Pc [.ref (ad (1)), .long p0] (PC dC dI cA ad M)) (va_Qv (fun u => u = f_X1_addCorrection M p0) (PC dC dI cA ad) (adS 69 ad)) 0 0 (adS 69 ad) := by
  refine cMet (by decide) (Nat.le_of_ble_eq_true rfl) ?_
  intro p e s m below meth c ls hx hb hr hml hlocks hown hts hK hP hS hl
  have hA : ∀ q, adS 69 ad q → adS 69 ad q := fun _ h => h
  have hl : lv_has ls 5 [(0, .ref (ad (1))), (1, .long p0)] := hl
  obtain ⟨V, eV⟩ : ∃ z, z = f_X1_addCorrection M p0 := ⟨_, rfl⟩
  have hv := eV
  unfold f_X1_addCorrection at hv
  refine lv_aload_n hx hb dX1_addCorrection_0 rfl (lv_at hl 0 rfl) ?_
  refine fg_X1_24 hx hb hts hK hP hown dX1_addCorrection_1 ?_
  refine lv_i2l (v := (gI M (5)).toInt64) hx hb dX1_addCorrection_4 rfl ?_
  refine lv_lload_n hx hb dX1_addCorrection_5 rfl (lv_at hl 1 rfl) ?_
  refine lv_ladd hx hb dX1_addCorrection_6 ?_
  refine lv_topl (fun x_1 ex_1 => ?_)
  have hv := bnd_name hv ex_1
  refine lv_lstore_n (lv' := [(3, .long x_1), (0, .ref (ad (1))), (1, .long p0)]) hx hb dX1_addCorrection_7 rfl hl (by decide) rfl (fun ls hl => ?_)
  refine lv_aload_n hx hb dX1_addCorrection_8 rfl (lv_at hl 1 rfl) ?_
  refine lv_ldc2 (v := (-500)) hx hb hown (hts _ q_790) dX1_addCorrection_9 ?_
  refine lv_ldc2 (v := 500) hx hb hown (hts _ q_560) dX1_addCorrection_12 ?_
  refine lv_lload_n hx hb dX1_addCorrection_15 rfl (lv_at hl 0 rfl) ?_
  refine va_mmin_long hx hb (hml.trans hl.1.symm) hown (hts _ q_561) (hts _ q_562) (hts _ q_59) (hts _ q_563) (Nat.le_of_ble_eq_true rfl) (Nat.le_of_ble_eq_true rfl) (Nat.le_of_ble_eq_true rfl) (Nat.le_of_ble_eq_true rfl) dX1_addCorrection_16 ?_
  refine lv_topl (fun x_2 ex_2 => ?_)
  have hv := bnd_name hv ex_2
  refine va_mmax_long hx hb (hml.trans hl.1.symm) hown (hts _ q_564) (hts _ q_565) (hts _ q_59) (hts _ q_566) (Nat.le_of_ble_eq_true rfl) (Nat.le_of_ble_eq_true rfl) (Nat.le_of_ble_eq_true rfl) (Nat.le_of_ble_eq_true rfl) dX1_addCorrection_19 ?_
  refine lv_topl (fun x_3 ex_3 => ?_)
  have hv := bnd_name hv ex_3
  refine lv_l2i (v := (x_3).toInt32) hx hb dX1_addCorrection_22 rfl ?_
  refine fp_X1_24 hx hb hts hK hP hI hS hA hown dX1_addCorrection_23 (fun H locs hP hS => ?_)
  obtain ⟨M_4, eM_4⟩ : ∃ z : Mem, z = sI M (5) ((x_3).toInt32) := ⟨_, rfl⟩
  rw [← eM_4] at hP
  have hv := bnd_name hv eM_4
  exact W.vret hx hb hr (fun t ht hW => ⟨⟨M_4, rfl, hv.symm.trans eV, by rw [ht]; exact hP, va_K.moved hW.alike hK⟩, hS.F ht⟩) hS.2.2 dX1_addCorrection_26
def f_X1_step (M : Mem) (p0 : Int64) : Mem := bnd (sL M (2) (gL M (2) + (p0 * (1000000 : Int64)))) fun M_1 => bnd (sL M_1 (3) (0 : Int64)) fun M_2 => M_2
theorem hyX1_step : yX1_step.cls ≠ "java/lang/invoke/MethodHandle" ∧ yX1_step.cls ≠ "java/lang/invoke/VarHandle" ∧ (parseMethodDescriptor yX1_step.desc).map (fun d => d.parameters.length) = some 1 := by decide +kernel
set_option maxHeartbeats 4000000 in
set_option maxRecDepth 100000 in
theorem c_X1_step (l : Launch) (dC : Nat → ClassId) (dI : Nat → Nat → Nat) (cA : Nat → ClassId) (ad : Nat → Nat) (hI : Inj 69 ad) (M : Mem) (p0 : Int64)  : Met l yX1_step (.code yX1_step cX1_step 3 none :: AG) ({ frames := 0, cells := 0, slots := 0, locals := 0 } : Room) (va_Pc [.ref (ad (1)), .long p0] (PC dC dI cA ad M)) (va_Qv (fun u => u = f_X1_step M p0) (PC dC dI cA ad) (adS 69 ad)) 0 0 (adS 69 ad) := by
  refine cMet (by decide) (Nat.le_of_ble_eq_true rfl) ?_
  intro p e s m below meth c ls hx hb hr hml hlocks hown hts hK hP hS hl
  have hA : ∀ q, adS 69 ad q → adS 69 ad q := fun _ h => h
  have hl : lv_has ls 3 [(0, .ref (ad (1))), (1, .long p0)] := hl
  obtain ⟨V, eV⟩ : ∃ z, z = f_X1_step M p0 := ⟨_, rfl⟩
  have hv := eV
  unfold f_X1_step at hv
  refine lv_aload_n hx hb dX1_step_0 rfl (lv_at hl 0 rfl) ?_
  refine lv_dup hx hb dX1_step_1 rfl ?_
  refine fg_X1_11 hx hb hts hK hP hown dX1_step_2 ?_
  refine lv_lload_n hx hb dX1_step_5 rfl (lv_at hl 1 rfl) ?_
  refine lv_ldc2 (v := 1000000) hx hb hown (hts _ q_192) dX1_step_6 ?_
  refine lv_lmul hx hb dX1_step_9 ?_
  refine lv_ladd hx hb dX1_step_10 ?_
  refine fp_X1_11 hx hb hts hK hP hI hS hA hown dX1_step_11 (fun H locs hP hS => ?_)
  obtain ⟨M_1, eM_1⟩ : ∃ z : Mem, z = sL M (2) (gL M (2) + (p0 * (1000000 : Int64))) := ⟨_, rfl⟩
  rw [← eM_1] at hP
  have hv := bnd_name hv eM_1
  refine lv_aload_n hx hb dX1_step_14 rfl (lv_at hl 0 rfl) ?_
  refine lv_lconst (v := 0) hx hb dX1_step_15 (by decide) ?_
  refine fp_X1_17 hx hb hts hK hP hI hS hA hown dX1_step_16 (fun H locs hP hS => ?_)
  obtain ⟨M_2, eM_2⟩ : ∃ z : Mem, z = sL M_1 (3) (0 : Int64) := ⟨_, rfl⟩
  rw [← eM_2] at hP
  have hv := bnd_name hv eM_2
  exact W.vret hx hb hr (fun t ht hW => ⟨⟨M_2, rfl, hv.symm.trans eV, by rw [ht]; exact hP, va_K.moved hW.alike hK⟩, hS.F ht⟩) hS.2.2 dX1_step_19
def f_X1_slew (M : Mem) (p0 : Int64) : Mem := bnd (sL M (3) (p0 * (1000000 : Int64))) fun M_1 => M_1
theorem hyX1_slew : yX1_slew.cls ≠ "java/lang/invoke/MethodHandle" ∧ yX1_slew.cls ≠ "java/lang/invoke/VarHandle" ∧ (parseMethodDescriptor yX1_slew.desc).map (fun d => d.parameters.length) = some 1 := by decide +kernel
set_option maxHeartbeats 4000000 in
set_option maxRecDepth 100000 in
theorem c_X1_slew (l : Launch) (dC : Nat → ClassId) (dI : Nat → Nat → Nat) (cA : Nat → ClassId) (ad : Nat → Nat) (hI : Inj 69 ad) (M : Mem) (p0 : Int64)  : Met l yX1_slew (.code yX1_slew cX1_slew 3 none :: AG) ({ frames := 0, cells := 0, slots := 0, locals := 0 } : Room) (va_Pc [.ref (ad (1)), .long p0] (PC dC dI cA ad M)) (va_Qv (fun u => u = f_X1_slew M p0) (PC dC dI cA ad) (adS 69 ad)) 0 0 (adS 69 ad) := by
  refine cMet (by decide) (Nat.le_of_ble_eq_true rfl) ?_
  intro p e s m below meth c ls hx hb hr hml hlocks hown hts hK hP hS hl
  have hA : ∀ q, adS 69 ad q → adS 69 ad q := fun _ h => h
  have hl : lv_has ls 3 [(0, .ref (ad (1))), (1, .long p0)] := hl
  obtain ⟨V, eV⟩ : ∃ z, z = f_X1_slew M p0 := ⟨_, rfl⟩
  have hv := eV
  unfold f_X1_slew at hv
  refine lv_aload_n hx hb dX1_slew_0 rfl (lv_at hl 0 rfl) ?_
  refine lv_lload_n hx hb dX1_slew_1 rfl (lv_at hl 1 rfl) ?_
  refine lv_ldc2 (v := 1000000) hx hb hown (hts _ q_192) dX1_slew_2 ?_
  refine lv_lmul hx hb dX1_slew_5 ?_
  refine fp_X1_17 hx hb hts hK hP hI hS hA hown dX1_slew_6 (fun H locs hP hS => ?_)
  obtain ⟨M_1, eM_1⟩ : ∃ z : Mem, z = sL M (3) (p0 * (1000000 : Int64)) := ⟨_, rfl⟩
  rw [← eM_1] at hP
  have hv := bnd_name hv eM_1
  exact W.vret hx hb hr (fun t ht hW => ⟨⟨M_1, rfl, hv.symm.trans eV, by rw [ht]; exact hP, va_K.moved hW.alike hK⟩, hS.F ht⟩) hS.2.2 dX1_slew_9
def f_X2_get (M : Mem) (k : Nat) (p0 : Int32) : Int64 := if p0 < (0 : Int32) then (0 : Int64) else if p0 < (8 : Int32) then gJ M (k) (p0).toNatClampNeg else (0 : Int64)
theorem hyX2_get : yX2_get.cls ≠ "java/lang/invoke/MethodHandle" ∧ yX2_get.cls ≠ "java/lang/invoke/VarHandle" ∧ (parseMethodDescriptor yX2_get.desc).map (fun d => d.parameters.length) = some 1 := by decide +kernel
set_option maxHeartbeats 4000000 in
set_option maxRecDepth 100000 in
theorem c_X2_get (l : Launch) (dC : Nat → ClassId) (dI : Nat → Nat → Nat) (cA : Nat → ClassId) (ad : Nat → Nat) (hI : Inj 69 ad) (M : Mem) (k : Nat) (hk : k < 28) (p0 : Int32)  : Met l yX2_get (.code yX2_get cX2_get 2 (some .long) :: AG) ({ frames := 0, cells := 0, slots := 0, locals := 0 } : Room) (va_Pc [.ref (ad (13 + k)), .int p0] (PC dC dI cA ad M)) (va_Ql (fun r u => r = f_X2_get M k p0 ∧ u = M) (PC dC dI cA ad) (adS 69 ad)) 0 0 (adS 69 ad) := by
  refine cMet (by decide) (Nat.le_of_ble_eq_true rfl) ?_
  intro p e s m below meth c ls hx hb hr hml hlocks hown hts hK hP hS hl
  have hA : ∀ q, adS 69 ad q → adS 69 ad q := fun _ h => h
  have hl : lv_has ls 2 [(0, .ref (ad (13 + k))), (1, .int p0)] := hl
  obtain ⟨V, eV⟩ : ∃ z, z = f_X2_get M k p0 := ⟨_, rfl⟩
  have hv := eV
  unfold f_X2_get at hv
  refine lv_iload_n hx hb dX2_get_0 rfl (lv_at hl 1 rfl) ?_
  refine j0_lt (tgt := 22) hx hb dX2_get_1 (by decide) (fun c_1 => ?_) (fun c_1 => ?_)
  · have hv := hv.trans (if_pos c_1)
    refine lv_lconst (v := 0) hx hb dX2_get_22 (by decide) ?_
    exact W.lret (v := (0 : Int64)) hx hb hr (fun t ht hW => ⟨⟨_, M, rfl, ⟨hv.symm.trans eV, rfl⟩, by rw [ht]; exact hP, va_K.moved hW.alike hK⟩, hS.F ht⟩) hS.2.2 dX2_get_23
  · have hv := hv.trans (if_neg c_1)
    refine lv_iload_n hx hb dX2_get_4 rfl (lv_at hl 1 rfl) ?_
    refine lv_aload_n hx hb dX2_get_5 rfl (lv_at hl 0 rfl) ?_
    refine fg_X2_9 hx hb hts hK hP hown (k := k) (by omega) dX2_get_6 ?_
    refine w_alen hx hb hK hP (k := 41 + k) (by omega) (lyCa (k := k) (by omega)) (Or.inl rfl) (v := 8) rfl dX2_get_9 ?_
    refine jI_ge (tgt := 22) hx hb dX2_get_10 (by decide) (fun c_2 => ?_) (fun c_2 => ?_)
    · have hv := hv.trans (if_pos c_2)
      refine lv_aload_n hx hb dX2_get_13 rfl (lv_at hl 0 rfl) ?_
      refine fg_X2_9 hx hb hts hK hP hown (k := k) (by omega) dX2_get_14 ?_
      refine lv_iload_n hx hb dX2_get_17 rfl (lv_at hl 1 rfl) ?_
      have hin := (vp_of c_1 c_2 (by decide))
      refine w_lald hx hb hK hP (k := 41 + k) (by omega) (lyCa (k := k) (by omega)) hin dX2_get_18 ?_
      refine lv_goto (tgt := 23) hx hb dX2_get_19 (by decide) ?_
      exact W.lret (v := gJ M (k) (p0).toNatClampNeg) hx hb hr (fun t ht hW => ⟨⟨_, M, rfl, ⟨hv.symm.trans eV, rfl⟩, by rw [ht]; exact hP, va_K.moved hW.alike hK⟩, hS.F ht⟩) hS.2.2 dX2_get_23
    · have hv := hv.trans (if_neg c_2)
      refine lv_lconst (v := 0) hx hb dX2_get_22 (by decide) ?_
      exact W.lret (v := (0 : Int64)) hx hb hr (fun t ht hW => ⟨⟨_, M, rfl, ⟨hv.symm.trans eV, rfl⟩, by rw [ht]; exact hP, va_K.moved hW.alike hK⟩, hS.F ht⟩) hS.2.2 dX2_get_23
def f_X2_put (M : Mem) (k : Nat) (p0 : Int32) (p1 : Int64) : Mem := if p0 < (0 : Int32) then M else if p0 < (8 : Int32) then bnd (sJ M (k) (vp_updL (gJ M (k)) (p0).toNatClampNeg p1)) fun M_3 => M_3 else M
theorem hyX2_put : yX2_put.cls ≠ "java/lang/invoke/MethodHandle" ∧ yX2_put.cls ≠ "java/lang/invoke/VarHandle" ∧ (parseMethodDescriptor yX2_put.desc).map (fun d => d.parameters.length) = some 2 := by decide +kernel
set_option maxHeartbeats 4000000 in
set_option maxRecDepth 100000 in
theorem c_X2_put (l : Launch) (dC : Nat → ClassId) (dI : Nat → Nat → Nat) (cA : Nat → ClassId) (ad : Nat → Nat) (hI : Inj 69 ad) (M : Mem) (k : Nat) (hk : k < 28) (p0 : Int32) (p1 : Int64)  : Met l yX2_put (.code yX2_put cX2_put 4 none :: AG) ({ frames := 0, cells := 0, slots := 0, locals := 0 } : Room) (va_Pc [.ref (ad (13 + k)), .int p0, .long p1] (PC dC dI cA ad M)) (va_Qv (fun u => u = f_X2_put M k p0 p1) (PC dC dI cA ad) (adS 69 ad)) 0 0 (adS 69 ad) := by
  refine cMet (by decide) (Nat.le_of_ble_eq_true rfl) ?_
  intro p e s m below meth c ls hx hb hr hml hlocks hown hts hK hP hS hl
  have hA : ∀ q, adS 69 ad q → adS 69 ad q := fun _ h => h
  have hl : lv_has ls 4 [(0, .ref (ad (13 + k))), (1, .int p0), (2, .long p1)] := hl
  obtain ⟨V, eV⟩ : ∃ z, z = f_X2_put M k p0 p1 := ⟨_, rfl⟩
  have hv := eV
  unfold f_X2_put at hv
  refine lv_iload_n hx hb dX2_put_0 rfl (lv_at hl 1 rfl) ?_
  refine j0_lt (tgt := 20) hx hb dX2_put_1 (by decide) (fun c_1 => ?_) (fun c_1 => ?_)
  · have hv := hv.trans (if_pos c_1)
    exact W.vret hx hb hr (fun t ht hW => ⟨⟨M, rfl, hv.symm.trans eV, by rw [ht]; exact hP, va_K.moved hW.alike hK⟩, hS.F ht⟩) hS.2.2 dX2_put_20
  · have hv := hv.trans (if_neg c_1)
    refine lv_iload_n hx hb dX2_put_4 rfl (lv_at hl 1 rfl) ?_
    refine lv_aload_n hx hb dX2_put_5 rfl (lv_at hl 0 rfl) ?_
    refine fg_X2_9 hx hb hts hK hP hown (k := k) (by omega) dX2_put_6 ?_
    refine w_alen hx hb hK hP (k := 41 + k) (by omega) (lyCa (k := k) (by omega)) (Or.inl rfl) (v := 8) rfl dX2_put_9 ?_
    refine jI_ge (tgt := 20) hx hb dX2_put_10 (by decide) (fun c_2 => ?_) (fun c_2 => ?_)
    · have hv := hv.trans (if_pos c_2)
      refine lv_aload_n hx hb dX2_put_13 rfl (lv_at hl 0 rfl) ?_
      refine fg_X2_9 hx hb hts hK hP hown (k := k) (by omega) dX2_put_14 ?_
      refine lv_iload_n hx hb dX2_put_17 rfl (lv_at hl 1 rfl) ?_
      refine lv_lload_n hx hb dX2_put_18 rfl (lv_at hl 2 rfl) ?_
      have hin := (vp_of c_1 c_2 (by decide))
      refine w_last hx hb hK hP hI hS hA (k := 41 + k) (by omega) (lyCa (k := k) (by omega)) (uAC (k := k) (by omega)) hin dX2_put_19 (fun H locs hP hS => ?_)
      obtain ⟨M_3, eM_3⟩ : ∃ z : Mem, z = sJ M (k) (vp_updL (gJ M (k)) (p0).toNatClampNeg p1) := ⟨_, rfl⟩
      rw [← eM_3] at hP
      have hv := bnd_name hv eM_3
      exact W.vret hx hb hr (fun t ht hW => ⟨⟨M_3, rfl, hv.symm.trans eV, by rw [ht]; exact hP, va_K.moved hW.alike hK⟩, hS.F ht⟩) hS.2.2 dX2_put_20
    · have hv := hv.trans (if_neg c_2)
      exact W.vret hx hb hr (fun t ht hW => ⟨⟨M, rfl, hv.symm.trans eV, by rw [ht]; exact hP, va_K.moved hW.alike hK⟩, hS.F ht⟩) hS.2.2 dX2_put_20
def f_X0_civilTime_L5 (M : Mem) (p0 : Int64) : Nat → Nat → Int64 → Int64
  | 0, _, _ => 0
  | r + 1, i, y3_5 => if (20 : Int32) < nI i then y3_5 else bnd ((f_X0_contains (gI M (6)) (nI i))) fun x_2 => if x_2 = (0 : Int32) then bnd ((f_X0_contains (gI M (7)) (nI i))) fun x_4 => if x_4 = (0 : Int32) then f_X0_civilTime_L5 M p0 r (i + 1) y3_5 else bnd ((f_X0_partCome (nI i) p0)) fun x_6 => bnd ((y3_5 + x_6)) fun x_7 => f_X0_civilTime_L5 M p0 r (i + 1) x_7 else bnd ((f_X0_partCome (nI i) p0)) fun x_8 => bnd ((y3_5 - x_8)) fun x_9 => bnd ((f_X0_contains (gI M (7)) (nI i))) fun x_10 => if x_10 = (0 : Int32) then f_X0_civilTime_L5 M p0 r (i + 1) x_9 else bnd ((f_X0_partCome (nI i) p0)) fun x_12 => bnd ((x_9 + x_12)) fun x_13 => f_X0_civilTime_L5 M p0 r (i + 1) x_13
def f_X0_civilTime (M : Mem) (p0 : Int64) : Int64 := f_X0_civilTime_L5 M p0 (21 + 1 - 0) 0 p0
theorem hyX0_civilTime : yX0_civilTime.cls ≠ "java/lang/invoke/MethodHandle" ∧ yX0_civilTime.cls ≠ "java/lang/invoke/VarHandle" ∧ (parseMethodDescriptor yX0_civilTime.desc).map (fun d => d.parameters.length) = some 1 := by decide +kernel
set_option maxHeartbeats 4000000 in
set_option maxRecDepth 100000 in
theorem c_X0_civilTime (l : Launch) (dC : Nat → ClassId) (dI : Nat → Nat → Nat) (cA : Nat → ClassId) (ad : Nat → Nat) (hI : Inj 69 ad) (M : Mem) (p0 : Int64)  : Met l yX0_civilTime (.code yX0_civilTime cX0_civilTime 6 (some .long) :: AG) ({ frames := 2, cells := 0, slots := 0, locals := 44 } : Room) (va_Pc [.ref (ad (2)), .long p0] (PC dC dI cA ad M)) (va_Ql (fun r u => r = f_X0_civilTime M p0 ∧ u = M) (PC dC dI cA ad) (adS 69 ad)) 0 0 (adS 69 ad) := by
  refine cMet (by decide) (Nat.le_of_ble_eq_true rfl) ?_
  intro p e s m below meth c ls hx hb hr hml hlocks hown hts hK hP hS hl
  have hA : ∀ q, adS 69 ad q → adS 69 ad q := fun _ h => h
  have hl : lv_has ls 6 [(0, .ref (ad (2))), (1, .long p0)] := hl
  obtain ⟨V, eV⟩ : ∃ z, z = f_X0_civilTime M p0 := ⟨_, rfl⟩
  have hv := eV
  unfold f_X0_civilTime at hv
  refine lv_lload_n hx hb dX0_civilTime_0 rfl (lv_at hl 1 rfl) ?_
  refine lv_lstore_n (lv' := [(3, .long p0), (0, .ref (ad (2))), (1, .long p0)]) hx hb dX0_civilTime_1 rfl hl (by decide) rfl (fun ls hl => ?_)
  refine lv_iconst (v := 0) hx hb dX0_civilTime_2 (by decide) ?_
  refine lv_istore (lv' := [(5, .int (0 : Int32)), (3, .long p0), (0, .ref (ad (2))), (1, .long p0)]) hx hb dX0_civilTime_3 hl (by decide) rfl (fun ls hl => ?_)
  have L5 : ∀ (r i : Nat) (y3_5 : Int64) (H : Heap) (locs : List Loc) (ls : Array Slot), i + r = 21 + 1 → i ≤ 21 → V = f_X0_civilTime_L5 M p0 r i y3_5 → va_P (dC, dI) vwCl (wld 69 layC cA ad M) H → va_S (adS 69 ad) s.heap H locs → lv_has ls 6 [(5, .int (nI i)), (3, .long y3_5), (0, .ref (ad (2))), (1, .long p0)] → W p l e ({ frames := 2, cells := 0, slots := 0, locals := 44 } : Room) s m ([.ref (ad (2)), .long p0] : List Value).toArray below meth c H locs 0 0 (MQ below (va_Ql (fun r u => r = f_X0_civilTime M p0 ∧ u = M) (PC dC dI cA ad) (adS 69 ad)) ([.ref (ad (2)), .long p0] : List Value).toArray s 0 0 (adS 69 ad)) (F0 m 5 ls []) := by
    intro r
    induction r with
    | zero =>
      intro i y3_5 H locs ls hir hib
      omega
    | succ r ih =>
      intro i y3_5 H locs ls hir hib hv hP hS hl
      rw [f_X0_civilTime_L5] at hv
      refine lv_iload hx hb dX0_civilTime_5 (lv_at hl 0 rfl) ?_
      refine lv_bipush (v := 20) hx hb dX0_civilTime_7 (by decide) ?_
      refine jI_gt (tgt := 60) hx hb dX0_civilTime_9 (by decide) (fun c_1 => ?_) (fun c_1 => ?_)
      · have hv := hv.trans (if_pos c_1)
        refine lv_lload_n hx hb dX0_civilTime_60 rfl (lv_at hl 1 rfl) ?_
        exact W.lret (v := y3_5) hx hb hr (fun t ht hW => ⟨⟨_, M, rfl, ⟨hv.symm.trans eV, rfl⟩, by rw [ht]; exact hP, va_K.moved hW.alike hK⟩, hS.F ht⟩) hS.2.2 dX0_civilTime_61
      · have hv := hv.trans (if_neg c_1)
        have hc_1 : ¬ 20 < i := fun h => c_1 (nI_lt h (by omega))
        refine lv_aload_n hx hb dX0_civilTime_12 rfl (lv_at hl 2 rfl) ?_
        refine fg_X0_13 hx hb hts hK hP hown dX0_civilTime_13 ?_
        refine lv_iload hx hb dX0_civilTime_16 (lv_at hl 0 rfl) ?_
        refine kSi hx hb hml hown hts (As := [.int (gI M (6)), .int (nI i)]) (rest := []) (c_X0_contains l (gI M (6)) (nI i) ) (mkS hts q_273 q_49 q_271 q_272 hyX0_contains rfl rfl ⟨(Nat.le_of_ble_eq_true rfl), (Nat.le_of_ble_eq_true rfl)⟩) rfl hl.1 rfl (Nat.le_of_ble_eq_true rfl) dX0_civilTime_18 ⟨(Nat.le_of_ble_eq_true rfl), (Nat.le_of_ble_eq_true rfl)⟩ ?_
        refine lv_topi (fun x_2 ex_2 => ?_)
        have hv := bnd_name hv ex_2
        have bx_2 : x_2 = 0 ∨ x_2 = 1 := by rw [ex_2]; exact f_X0_contains_b (gI M (6)) (nI i)
        refine j0_eq (tgt := 33) hx hb dX0_civilTime_21 (by decide) (fun c_3 => ?_) (fun c_3 => ?_)
        · have hv := hv.trans (if_pos c_3)
          refine lv_aload_n hx hb dX0_civilTime_33 rfl (lv_at hl 2 rfl) ?_
          refine fg_X0_17 hx hb hts hK hP hown dX0_civilTime_34 ?_
          refine lv_iload hx hb dX0_civilTime_37 (lv_at hl 0 rfl) ?_
          refine kSi hx hb hml hown hts (As := [.int (gI M (7)), .int (nI i)]) (rest := []) (c_X0_contains l (gI M (7)) (nI i) ) (mkS hts q_273 q_49 q_271 q_272 hyX0_contains rfl rfl ⟨(Nat.le_of_ble_eq_true rfl), (Nat.le_of_ble_eq_true rfl)⟩) rfl hl.1 rfl (Nat.le_of_ble_eq_true rfl) dX0_civilTime_39 ⟨(Nat.le_of_ble_eq_true rfl), (Nat.le_of_ble_eq_true rfl)⟩ ?_
          refine lv_topi (fun x_4 ex_4 => ?_)
          have hv := bnd_name hv ex_4
          have bx_4 : x_4 = 0 ∨ x_4 = 1 := by rw [ex_4]; exact f_X0_contains_b (gI M (7)) (nI i)
          refine j0_eq (tgt := 54) hx hb dX0_civilTime_42 (by decide) (fun c_5 => ?_) (fun c_5 => ?_)
          · have hv := hv.trans (if_pos c_5)
            refine lv_iinc (v := nI (i + 1)) (lv' := [(5, .int (nI (i + 1))), (3, .long y3_5), (0, .ref (ad (2))), (1, .long p0)]) hx hb dX0_civilTime_54 hl (k := 0) rfl (show nI (i) + 1 = nI (i + 1) from nI_1 _) (by decide) rfl (fun ls hl => ?_)
            refine lv_goto (tgt := 5) hx hb dX0_civilTime_57 (by decide) ?_
            exact ih (i + 1) y3_5 _ _ _ (by omega) (by omega)  hv hP hS (lv_sub hl [0, 1, 2, 3] rfl)
          · have hv := hv.trans (if_neg c_5)
            refine lv_lload_n hx hb dX0_civilTime_45 rfl (lv_at hl 1 rfl) ?_
            refine lv_iload hx hb dX0_civilTime_46 (lv_at hl 0 rfl) ?_
            refine lv_lload_n hx hb dX0_civilTime_48 rfl (lv_at hl 3 rfl) ?_
            refine kSl hx hb hml hown hts (As := [.int (nI i), .long p0]) (rest := [.long y3_5]) (c_X0_partCome l (nI i) p0 ) (mkS hts q_276 q_49 q_274 q_275 hyX0_partCome rfl rfl ⟨(Nat.le_of_ble_eq_true rfl), (Nat.le_of_ble_eq_true rfl)⟩) rfl hl.1 rfl (Nat.le_of_ble_eq_true rfl) dX0_civilTime_49 ⟨(Nat.le_of_ble_eq_true rfl), (Nat.le_of_ble_eq_true rfl)⟩ ?_
            refine lv_topl (fun x_6 ex_6 => ?_)
            have hv := bnd_name hv ex_6
            refine lv_ladd hx hb dX0_civilTime_52 ?_
            refine lv_topl (fun x_7 ex_7 => ?_)
            have hv := bnd_name hv ex_7
            refine lv_lstore_n (lv' := [(3, .long x_7), (5, .int (nI i)), (0, .ref (ad (2))), (1, .long p0)]) hx hb dX0_civilTime_53 rfl hl (by decide) rfl (fun ls hl => ?_)
            refine lv_iinc (v := nI (i + 1)) (lv' := [(5, .int (nI (i + 1))), (3, .long x_7), (0, .ref (ad (2))), (1, .long p0)]) hx hb dX0_civilTime_54 hl (k := 1) rfl (show nI (i) + 1 = nI (i + 1) from nI_1 _) (by decide) rfl (fun ls hl => ?_)
            refine lv_goto (tgt := 5) hx hb dX0_civilTime_57 (by decide) ?_
            exact ih (i + 1) x_7 _ _ _ (by omega) (by omega)  hv hP hS (lv_sub hl [0, 1, 2, 3] rfl)
        · have hv := hv.trans (if_neg c_3)
          refine lv_lload_n hx hb dX0_civilTime_24 rfl (lv_at hl 1 rfl) ?_
          refine lv_iload hx hb dX0_civilTime_25 (lv_at hl 0 rfl) ?_
          refine lv_lload_n hx hb dX0_civilTime_27 rfl (lv_at hl 3 rfl) ?_
          refine kSl hx hb hml hown hts (As := [.int (nI i), .long p0]) (rest := [.long y3_5]) (c_X0_partCome l (nI i) p0 ) (mkS hts q_276 q_49 q_274 q_275 hyX0_partCome rfl rfl ⟨(Nat.le_of_ble_eq_true rfl), (Nat.le_of_ble_eq_true rfl)⟩) rfl hl.1 rfl (Nat.le_of_ble_eq_true rfl) dX0_civilTime_28 ⟨(Nat.le_of_ble_eq_true rfl), (Nat.le_of_ble_eq_true rfl)⟩ ?_
          refine lv_topl (fun x_8 ex_8 => ?_)
          have hv := bnd_name hv ex_8
          refine lv_lsub hx hb dX0_civilTime_31 ?_
          refine lv_topl (fun x_9 ex_9 => ?_)
          have hv := bnd_name hv ex_9
          refine lv_lstore_n (lv' := [(3, .long x_9), (5, .int (nI i)), (0, .ref (ad (2))), (1, .long p0)]) hx hb dX0_civilTime_32 rfl hl (by decide) rfl (fun ls hl => ?_)
          refine lv_aload_n hx hb dX0_civilTime_33 rfl (lv_at hl 2 rfl) ?_
          refine fg_X0_17 hx hb hts hK hP hown dX0_civilTime_34 ?_
          refine lv_iload hx hb dX0_civilTime_37 (lv_at hl 1 rfl) ?_
          refine kSi hx hb hml hown hts (As := [.int (gI M (7)), .int (nI i)]) (rest := []) (c_X0_contains l (gI M (7)) (nI i) ) (mkS hts q_273 q_49 q_271 q_272 hyX0_contains rfl rfl ⟨(Nat.le_of_ble_eq_true rfl), (Nat.le_of_ble_eq_true rfl)⟩) rfl hl.1 rfl (Nat.le_of_ble_eq_true rfl) dX0_civilTime_39 ⟨(Nat.le_of_ble_eq_true rfl), (Nat.le_of_ble_eq_true rfl)⟩ ?_
          refine lv_topi (fun x_10 ex_10 => ?_)
          have hv := bnd_name hv ex_10
          have bx_10 : x_10 = 0 ∨ x_10 = 1 := by rw [ex_10]; exact f_X0_contains_b (gI M (7)) (nI i)
          refine j0_eq (tgt := 54) hx hb dX0_civilTime_42 (by decide) (fun c_11 => ?_) (fun c_11 => ?_)
          · have hv := hv.trans (if_pos c_11)
            refine lv_iinc (v := nI (i + 1)) (lv' := [(5, .int (nI (i + 1))), (3, .long x_9), (0, .ref (ad (2))), (1, .long p0)]) hx hb dX0_civilTime_54 hl (k := 1) rfl (show nI (i) + 1 = nI (i + 1) from nI_1 _) (by decide) rfl (fun ls hl => ?_)
            refine lv_goto (tgt := 5) hx hb dX0_civilTime_57 (by decide) ?_
            exact ih (i + 1) x_9 _ _ _ (by omega) (by omega)  hv hP hS (lv_sub hl [0, 1, 2, 3] rfl)
          · have hv := hv.trans (if_neg c_11)
            refine lv_lload_n hx hb dX0_civilTime_45 rfl (lv_at hl 0 rfl) ?_
            refine lv_iload hx hb dX0_civilTime_46 (lv_at hl 1 rfl) ?_
            refine lv_lload_n hx hb dX0_civilTime_48 rfl (lv_at hl 3 rfl) ?_
            refine kSl hx hb hml hown hts (As := [.int (nI i), .long p0]) (rest := [.long x_9]) (c_X0_partCome l (nI i) p0 ) (mkS hts q_276 q_49 q_274 q_275 hyX0_partCome rfl rfl ⟨(Nat.le_of_ble_eq_true rfl), (Nat.le_of_ble_eq_true rfl)⟩) rfl hl.1 rfl (Nat.le_of_ble_eq_true rfl) dX0_civilTime_49 ⟨(Nat.le_of_ble_eq_true rfl), (Nat.le_of_ble_eq_true rfl)⟩ ?_
            refine lv_topl (fun x_12 ex_12 => ?_)
            have hv := bnd_name hv ex_12
            refine lv_ladd hx hb dX0_civilTime_52 ?_
            refine lv_topl (fun x_13 ex_13 => ?_)
            have hv := bnd_name hv ex_13
            refine lv_lstore_n (lv' := [(3, .long x_13), (5, .int (nI i)), (0, .ref (ad (2))), (1, .long p0)]) hx hb dX0_civilTime_53 rfl hl (by decide) rfl (fun ls hl => ?_)
            refine lv_iinc (v := nI (i + 1)) (lv' := [(5, .int (nI (i + 1))), (3, .long x_13), (0, .ref (ad (2))), (1, .long p0)]) hx hb dX0_civilTime_54 hl (k := 1) rfl (show nI (i) + 1 = nI (i + 1) from nI_1 _) (by decide) rfl (fun ls hl => ?_)
            refine lv_goto (tgt := 5) hx hb dX0_civilTime_57 (by decide) ?_
            exact ih (i + 1) x_13 _ _ _ (by omega) (by omega)  hv hP hS (lv_sub hl [0, 1, 2, 3] rfl)
  exact L5 (21 + 1 - 0) 0 p0 _ _ _ (by omega) (by omega)  hv hP hS (lv_sub hl [0, 1, 2, 3] rfl)
