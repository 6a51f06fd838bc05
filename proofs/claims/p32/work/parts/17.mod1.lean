theorem fa_eq' (a b : Int32) : (a = b) = (a.toInt = b.toInt) := propext ⟨fun h => by rw [h], fun h => Int32.toInt_inj.mp h⟩
def f_X6_refused (M : Mem) (p0 : Int32) : Int32 × Mem := bnd (sI M (0) p0) fun M_1 => if p0 = (0 : Int32) then ((0 : Int32), M_1) else ((1 : Int32), M_1)
theorem hyX6_refused : yX6_refused.cls ≠ "java/lang/invoke/MethodHandle" ∧ yX6_refused.cls ≠ "java/lang/invoke/VarHandle" ∧ (parseMethodDescriptor yX6_refused.desc).map (fun d => d.parameters.length) = some 1 := by decide +kernel
set_option maxHeartbeats 4000000 in
set_option maxRecDepth 100000 in
theorem c_X6_refused (l : Launch) (dC : Nat → ClassId) (dI : Nat → Nat → Nat) (cA : Nat → ClassId) (ad : Nat → Nat) (hI : Inj 12 ad) (M : Mem) (p0 : Int32) (hw0 : WFm M)  : Met l yX6_refused (.code yX6_refused cX6_refused 2 (some .boolean) :: AG) ({ frames := 0, cells := 0, slots := 0, locals := 0 } : Room) (va_Pc [.ref (ad (0)), .int p0] (PM dC dI cA ad M)) (va_Qi (fun r u => (r, u) = f_X6_refused M p0 ∧ WFm u) (PM dC dI cA ad) (adS 12 ad)) 0 0 (adS 12 ad) := by
  refine cMet (by decide) (Nat.le_of_ble_eq_true rfl) ?_
  intro p e s m below meth c ls hx hb hr hml hlocks hown hts hK hP hS hl
  have hA : ∀ q, adS 12 ad q → adS 12 ad q := fun _ h => h
  have hl : lv_has ls 2 [(0, .ref (ad (0))), (1, .int p0)] := hl
  obtain ⟨V, eV⟩ : ∃ z, z = f_X6_refused M p0 := ⟨_, rfl⟩
  have hv := eV
  unfold f_X6_refused at hv
  refine lv_aload_n hx hb dX6_refused_0 rfl (lv_at hl 0 rfl) ?_
  refine lv_iload_n hx hb dX6_refused_1 rfl (lv_at hl 1 rfl) ?_
  refine fp_X6_49 hx hb hts hK hP hI hS hA hown dX6_refused_2 (fun H locs hP hS => ?_)
  obtain ⟨M_1, eM_1⟩ : ∃ z : Mem, z = sI M (0) p0 := ⟨_, rfl⟩
  rw [← eM_1] at hP
  have hv := bnd_name hv eM_1
  have wM_1 : WFm M_1 := by rw [eM_1]; exact WFm_sI hw0 (by decide)
  refine lv_iload_n hx hb dX6_refused_5 rfl (lv_at hl 1 rfl) ?_
  refine j0_eq (tgt := 13) hx hb dX6_refused_6 (by decide) (fun c_2 => ?_) (fun c_2 => ?_)
  · have hv := hv.trans (if_pos c_2)
    refine lv_iconst (v := 0) hx hb dX6_refused_13 (by decide) ?_
    exact W.zret (v := (0 : Int32)) hx hb hr rfl (fun t ht hW => ⟨⟨_, M_1, rfl, ⟨hv.symm.trans eV, wM_1⟩, by rw [ht]; exact hP, va_K.moved hW.alike hK⟩, hS.F ht⟩) hS.2.2 dX6_refused_14
  · have hv := hv.trans (if_neg c_2)
    refine lv_iconst (v := 1) hx hb dX6_refused_9 (by decide) ?_
    refine lv_goto (tgt := 14) hx hb dX6_refused_10 (by decide) ?_
    exact W.zret (v := (1 : Int32)) hx hb hr rfl (fun t ht hW => ⟨⟨_, M_1, rfl, ⟨hv.symm.trans eV, wM_1⟩, by rw [ht]; exact hP, va_K.moved hW.alike hK⟩, hS.F ht⟩) hS.2.2 dX6_refused_14
theorem f_X6_refused_b (M : Mem) (p0 : Int32) : (f_X6_refused M p0).1 = 0 ∨ (f_X6_refused M p0).1 = 1 := by
  unfold f_X6_refused
  repeat' (first | with_reducible refine bnd_or1 (fun _ => ?_) | with_reducible refine bnd2_or1 (fun _ _ => ?_) | with_reducible refine ite_or1 ?_ ?_ | exact Or.inl rfl | exact Or.inr rfl)
def f_X6_thrown (M : Mem)  : Int32 := gI M (0)
def f_X6_fine (M : Mem) (p0 : Int32) : Int32 × Mem := bnd (sI M (0) (0 : Int32)) fun M_1 => (p0, M_1)
theorem hyX6_fine : yX6_fine.cls ≠ "java/lang/invoke/MethodHandle" ∧ yX6_fine.cls ≠ "java/lang/invoke/VarHandle" ∧ (parseMethodDescriptor yX6_fine.desc).map (fun d => d.parameters.length) = some 1 := by decide +kernel
set_option maxHeartbeats 4000000 in
set_option maxRecDepth 100000 in
theorem c_X6_fine (l : Launch) (dC : Nat → ClassId) (dI : Nat → Nat → Nat) (cA : Nat → ClassId) (ad : Nat → Nat) (hI : Inj 12 ad) (M : Mem) (p0 : Int32) (hw0 : WFm M)  : Met l yX6_fine (.code yX6_fine cX6_fine 2 (some .int) :: AG) ({ frames := 0, cells := 0, slots := 0, locals := 0 } : Room) (va_Pc [.ref (ad (0)), .int p0] (PM dC dI cA ad M)) (va_Qi (fun r u => (r, u) = f_X6_fine M p0 ∧ WFm u) (PM dC dI cA ad) (adS 12 ad)) 0 0 (adS 12 ad) := by
  refine cMet (by decide) (Nat.le_of_ble_eq_true rfl) ?_
  intro p e s m below meth c ls hx hb hr hml hlocks hown hts hK hP hS hl
  have hA : ∀ q, adS 12 ad q → adS 12 ad q := fun _ h => h
  have hl : lv_has ls 2 [(0, .ref (ad (0))), (1, .int p0)] := hl
  obtain ⟨V, eV⟩ : ∃ z, z = f_X6_fine M p0 := ⟨_, rfl⟩
  have hv := eV
  unfold f_X6_fine at hv
  refine lv_aload_n hx hb dX6_fine_0 rfl (lv_at hl 0 rfl) ?_
  refine lv_iconst (v := 0) hx hb dX6_fine_1 (by decide) ?_
  refine fp_X6_49 hx hb hts hK hP hI hS hA hown dX6_fine_2 (fun H locs hP hS => ?_)
  obtain ⟨M_1, eM_1⟩ : ∃ z : Mem, z = sI M (0) (0 : Int32) := ⟨_, rfl⟩
  rw [← eM_1] at hP
  have hv := bnd_name hv eM_1
  have wM_1 : WFm M_1 := by rw [eM_1]; exact WFm_sI hw0 (by decide)
  refine lv_iload_n hx hb dX6_fine_5 rfl (lv_at hl 1 rfl) ?_
  exact W.iret (v := p0) hx hb hr (fun t ht hW => ⟨⟨_, M_1, rfl, ⟨hv.symm.trans eV, wM_1⟩, by rw [ht]; exact hP, va_K.moved hW.alike hK⟩, hS.F ht⟩) hS.2.2 dX6_fine_6
def f_X6_fineLong (M : Mem) (p0 : Int64) : Int64 × Mem := bnd (sI M (0) (0 : Int32)) fun M_1 => (p0, M_1)
theorem hyX6_fineLong : yX6_fineLong.cls ≠ "java/lang/invoke/MethodHandle" ∧ yX6_fineLong.cls ≠ "java/lang/invoke/VarHandle" ∧ (parseMethodDescriptor yX6_fineLong.desc).map (fun d => d.parameters.length) = some 1 := by decide +kernel
set_option maxHeartbeats 4000000 in
set_option maxRecDepth 100000 in
theorem c_X6_fineLong (l : Launch) (dC : Nat → ClassId) (dI : Nat → Nat → Nat) (cA : Nat → ClassId) (ad : Nat → Nat) (hI : Inj 12 ad) (M : Mem) (p0 : Int64) (hw0 : WFm M)  : Met l yX6_fineLong (.code yX6_fineLong cX6_fineLong 3 (some .long) :: AG) ({ frames := 0, cells := 0, slots := 0, locals := 0 } : Room) (va_Pc [.ref (ad (0)), .long p0] (PM dC dI cA ad M)) (va_Ql (fun r u => (r, u) = f_X6_fineLong M p0 ∧ WFm u) (PM dC dI cA ad) (adS 12 ad)) 0 0 (adS 12 ad) := by
  refine cMet (by decide) (Nat.le_of_ble_eq_true rfl) ?_
  intro p e s m below meth c ls hx hb hr hml hlocks hown hts hK hP hS hl
  have hA : ∀ q, adS 12 ad q → adS 12 ad q := fun _ h => h
  have hl : lv_has ls 3 [(0, .ref (ad (0))), (1, .long p0)] := hl
  obtain ⟨V, eV⟩ : ∃ z, z = f_X6_fineLong M p0 := ⟨_, rfl⟩
  have hv := eV
  unfold f_X6_fineLong at hv
  refine lv_aload_n hx hb dX6_fineLong_0 rfl (lv_at hl 0 rfl) ?_
  refine lv_iconst (v := 0) hx hb dX6_fineLong_1 (by decide) ?_
  refine fp_X6_49 hx hb hts hK hP hI hS hA hown dX6_fineLong_2 (fun H locs hP hS => ?_)
  obtain ⟨M_1, eM_1⟩ : ∃ z : Mem, z = sI M (0) (0 : Int32) := ⟨_, rfl⟩
  rw [← eM_1] at hP
  have hv := bnd_name hv eM_1
  have wM_1 : WFm M_1 := by rw [eM_1]; exact WFm_sI hw0 (by decide)
  refine lv_lload_n hx hb dX6_fineLong_5 rfl (lv_at hl 1 rfl) ?_
  exact W.lret (v := p0) hx hb hr (fun t ht hW => ⟨⟨_, M_1, rfl, ⟨hv.symm.trans eV, wM_1⟩, by rw [ht]; exact hP, va_K.moved hW.alike hK⟩, hS.F ht⟩) hS.2.2 dX6_fineLong_6
def f_X6_in (p0 : Int64) (p1 : Int64) (p2 : Int64) : Int32 := if p0 < p1 then (0 : Int32) else if p2 < p0 then (0 : Int32) else (1 : Int32)
theorem hyX6_in : yX6_in.cls ≠ "java/lang/invoke/MethodHandle" ∧ yX6_in.cls ≠ "java/lang/invoke/VarHandle" ∧ (parseMethodDescriptor yX6_in.desc).map (fun d => d.parameters.length) = some 3 := by decide +kernel
set_option maxHeartbeats 4000000 in
set_option maxRecDepth 100000 in
theorem c_X6_in (l : Launch) (p0 : Int64) (p1 : Int64) (p2 : Int64)  : Met l yX6_in (.code yX6_in cX6_in 6 (some .boolean) :: AG) ({ frames := 0, cells := 0, slots := 0, locals := 0 } : Room) (fun v _ => v = ([.long p0, .long p1, .long p2] : List Value).toArray) (vp_Si (fun r => r = f_X6_in p0 p1 p2)) 0 0 (fun _ => False) := by
  refine sMet (by decide) (Nat.le_of_ble_eq_true rfl) ?_
  intro p e s m below meth c ls hx hb hr hml hlocks hown hts hl
  have hl : lv_has ls 6 [(0, .long p0), (2, .long p1), (4, .long p2)] := hl
  obtain ⟨V, eV⟩ : ∃ z, z = f_X6_in p0 p1 p2 := ⟨_, rfl⟩
  have hv := eV
  unfold f_X6_in at hv
  refine lv_lload_n hx hb dX6_in_0 rfl (lv_at hl 0 rfl) ?_
  refine lv_lload_n hx hb dX6_in_1 rfl (lv_at hl 1 rfl) ?_
  refine jL_lt (tgt := 17) hx hb dX6_in_2 dX6_in_3 (by decide) (fun c_1 => ?_) (fun c_1 => ?_)
  · have hv := hv.trans (if_pos c_1)
    refine lv_iconst (v := 0) hx hb dX6_in_17 (by decide) ?_
    exact W.zret (v := (0 : Int32)) hx hb hr rfl (fun t ht hW => ⟨_, rfl, hv.symm.trans eV, ht⟩) (fun q h => nomatch h) dX6_in_18
  · have hv := hv.trans (if_neg c_1)
    refine lv_lload_n hx hb dX6_in_6 rfl (lv_at hl 0 rfl) ?_
    refine lv_lload hx hb dX6_in_7 (lv_at hl 2 rfl) ?_
    refine jL_gt (tgt := 17) hx hb dX6_in_9 dX6_in_10 (by decide) (fun c_2 => ?_) (fun c_2 => ?_)
    · have hv := hv.trans (if_pos c_2)
      refine lv_iconst (v := 0) hx hb dX6_in_17 (by decide) ?_
      exact W.zret (v := (0 : Int32)) hx hb hr rfl (fun t ht hW => ⟨_, rfl, hv.symm.trans eV, ht⟩) (fun q h => nomatch h) dX6_in_18
    · have hv := hv.trans (if_neg c_2)
      refine lv_iconst (v := 1) hx hb dX6_in_13 (by decide) ?_
      refine lv_goto (tgt := 18) hx hb dX6_in_14 (by decide) ?_
      exact W.zret (v := (1 : Int32)) hx hb hr rfl (fun t ht hW => ⟨_, rfl, hv.symm.trans eV, ht⟩) (fun q h => nomatch h) dX6_in_18
theorem f_X6_in_pos {a b c : Int64} (h : ¬ f_X6_in a b c = 0) : ¬ a < b ∧ ¬ c < a := by
  unfold f_X6_in at h
  by_cases h1 : a < b
  · rw [if_pos h1] at h; exact absurd rfl h
  · rw [if_neg h1] at h
    by_cases h2 : c < a
    · rw [if_pos h2] at h; exact absurd rfl h
    · exact ⟨h1, h2⟩
theorem in_rng {x : Int32} {n : Nat} (hn : n < 2 ^ 31) (h : ¬ f_X6_in x.toInt64 0 (Int64.ofNat n) = 0) : ∃ j, j ≤ n ∧ x = nI j := by
  obtain ⟨h1, h2⟩ := f_X6_in_pos h
  rw [Int64.lt_iff_toInt_lt] at h1 h2
  rw [Int32.toInt_toInt64] at h1 h2
  have e0 : (0 : Int64).toInt = 0 := by decide
  have e1 : (Int64.ofNat n).toInt = n := lN_toInt hn
  have hlt := x.toInt_lt
  refine ⟨x.toInt.toNat, by omega, ?_⟩
  rw [fa_eq', nI_toInt (by omega)]
  omega
theorem f_X6_in_b (p0 : Int64) (p1 : Int64) (p2 : Int64) : (f_X6_in p0 p1 p2) = 0 ∨ (f_X6_in p0 p1 p2) = 1 := by
  unfold f_X6_in
  repeat' (first | with_reducible refine bnd_or (fun _ => ?_) | with_reducible refine bnd2_or (fun _ _ => ?_) | with_reducible refine ite_or ?_ ?_ | exact Or.inl rfl | exact Or.inr rfl)
def f_X6_down (p0 : Int64) (p1 : Int64) : Int64 := bnd ((p0 / p1)) fun x_1 => if p0 < (x_1 * p1) then (x_1 - (1 : Int64)) else x_1
theorem hyX6_down : yX6_down.cls ≠ "java/lang/invoke/MethodHandle" ∧ yX6_down.cls ≠ "java/lang/invoke/VarHandle" ∧ (parseMethodDescriptor yX6_down.desc).map (fun d => d.parameters.length) = some 2 := by decide +kernel
set_option maxHeartbeats 4000000 in
set_option maxRecDepth 100000 in
theorem c_X6_down (l : Launch) (p0 : Int64) (p1 : Int64) (hy : ¬ p1 = 0) : Met l yX6_down (.code yX6_down cX6_down 6 (some .long) :: AG) ({ frames := 0, cells := 0, slots := 0, locals := 0 } : Room) (fun v _ => v = ([.long p0, .long p1] : List Value).toArray) (vp_Sl (fun r => r = f_X6_down p0 p1)) 0 0 (fun _ => False) := by
  refine sMet (by decide) (Nat.le_of_ble_eq_true rfl) ?_
  intro p e s m below meth c ls hx hb hr hml hlocks hown hts hl
  have hl : lv_has ls 6 [(0, .long p0), (2, .long p1)] := hl
  obtain ⟨V, eV⟩ : ∃ z, z = f_X6_down p0 p1 := ⟨_, rfl⟩
  have hv := eV
  unfold f_X6_down at hv
  refine lv_lload_n hx hb dX6_down_0 rfl (lv_at hl 0 rfl) ?_
  refine lv_lload_n hx hb dX6_down_1 rfl (lv_at hl 1 rfl) ?_
  refine lv_ldiv hx hb dX6_down_2 hy ?_
  refine lv_topl (fun x_1 ex_1 => ?_)
  have hv := bnd_name hv ex_1
  refine lv_lstore (lv' := [(4, .long x_1), (0, .long p0), (2, .long p1)]) hx hb dX6_down_3 hl (by decide) rfl (fun ls hl => ?_)
  refine lv_lload hx hb dX6_down_5 (lv_at hl 0 rfl) ?_
  refine lv_lload_n hx hb dX6_down_7 rfl (lv_at hl 2 rfl) ?_
  refine lv_lmul hx hb dX6_down_8 ?_
  refine lv_lload_n hx hb dX6_down_9 rfl (lv_at hl 1 rfl) ?_
  refine jL_le (tgt := 21) hx hb dX6_down_10 dX6_down_11 (by decide) (fun c_2 => ?_) (fun c_2 => ?_)
  · have hv := hv.trans (if_pos c_2)
    refine lv_lload hx hb dX6_down_14 (lv_at hl 0 rfl) ?_
    refine lv_lconst (v := 1) hx hb dX6_down_16 (by decide) ?_
    refine lv_lsub hx hb dX6_down_17 ?_
    refine lv_goto (tgt := 23) hx hb dX6_down_18 (by decide) ?_
    exact W.lret (v := (x_1 - (1 : Int64))) hx hb hr (fun t ht hW => ⟨_, rfl, hv.symm.trans eV, ht⟩) (fun q h => nomatch h) dX6_down_23
  · have hv := hv.trans (if_neg c_2)
    refine lv_lload hx hb dX6_down_21 (lv_at hl 0 rfl) ?_
    exact W.lret (v := x_1) hx hb hr (fun t ht hW => ⟨_, rfl, hv.symm.trans eV, ht⟩) (fun q h => nomatch h) dX6_down_23
def f_X6_size (p0 : Int64) : Int64 := if p0 < (0 : Int64) then (-p0) else p0
theorem hyX6_size : yX6_size.cls ≠ "java/lang/invoke/MethodHandle" ∧ yX6_size.cls ≠ "java/lang/invoke/VarHandle" ∧ (parseMethodDescriptor yX6_size.desc).map (fun d => d.parameters.length) = some 1 := by decide +kernel
set_option maxHeartbeats 4000000 in
set_option maxRecDepth 100000 in
theorem c_X6_size (l : Launch) (p0 : Int64)  : Met l yX6_size (.code yX6_size cX6_size 2 (some .long) :: AG) ({ frames := 0, cells := 0, slots := 0, locals := 0 } : Room) (fun v _ => v = ([.long p0] : List Value).toArray) (vp_Sl (fun r => r = f_X6_size p0)) 0 0 (fun _ => False) := by
  refine sMet (by decide) (Nat.le_of_ble_eq_true rfl) ?_
  intro p e s m below meth c ls hx hb hr hml hlocks hown hts hl
  have hl : lv_has ls 2 [(0, .long p0)] := hl
  obtain ⟨V, eV⟩ : ∃ z, z = f_X6_size p0 := ⟨_, rfl⟩
  have hv := eV
  unfold f_X6_size at hv
  refine lv_lload_n hx hb dX6_size_0 rfl (lv_at hl 0 rfl) ?_
  refine lv_lconst (v := 0) hx hb dX6_size_1 (by decide) ?_
  refine jL_ge (tgt := 11) hx hb dX6_size_2 dX6_size_3 (by decide) (fun c_1 => ?_) (fun c_1 => ?_)
  · have hv := hv.trans (if_pos c_1)
    refine lv_lload_n hx hb dX6_size_6 rfl (lv_at hl 0 rfl) ?_
    refine lv_lneg hx hb dX6_size_7 ?_
    refine lv_goto (tgt := 12) hx hb dX6_size_8 (by decide) ?_
    exact W.lret (v := (-p0)) hx hb hr (fun t ht hW => ⟨_, rfl, hv.symm.trans eV, ht⟩) (fun q h => nomatch h) dX6_size_12
  · have hv := hv.trans (if_neg c_1)
    refine lv_lload_n hx hb dX6_size_11 rfl (lv_at hl 0 rfl) ?_
    exact W.lret (v := p0) hx hb hr (fun t ht hW => ⟨_, rfl, hv.symm.trans eV, ht⟩) (fun q h => nomatch h) dX6_size_12
def f_X6_smearFrom (p0 : Int32) : Int64 := ((((p0 + (1 : Int32))).toInt64 * (86400000000 : Int64)) - (20000000000 : Int64))
theorem hyX6_smearFrom : yX6_smearFrom.cls ≠ "java/lang/invoke/MethodHandle" ∧ yX6_smearFrom.cls ≠ "java/lang/invoke/VarHandle" ∧ (parseMethodDescriptor yX6_smearFrom.desc).map (fun d => d.parameters.length) = some 1 := by decide +kernel
set_option maxHeartbeats 4000000 in
set_option maxRecDepth 100000 in
theorem c_X6_smearFrom (l : Launch) (p0 : Int32)  : Met l yX6_smearFrom (.code yX6_smearFrom cX6_smearFrom 1 (some .long) :: AG) ({ frames := 0, cells := 0, slots := 0, locals := 0 } : Room) (fun v _ => v = ([.int p0] : List Value).toArray) (vp_Sl (fun r => r = f_X6_smearFrom p0)) 0 0 (fun _ => False) := by
  refine sMet (by decide) (Nat.le_of_ble_eq_true rfl) ?_
  intro p e s m below meth c ls hx hb hr hml hlocks hown hts hl
  have hl : lv_has ls 1 [(0, .int p0)] := hl
  obtain ⟨V, eV⟩ : ∃ z, z = f_X6_smearFrom p0 := ⟨_, rfl⟩
  have hv := eV
  unfold f_X6_smearFrom at hv
  refine lv_iload_n hx hb dX6_smearFrom_0 rfl (lv_at hl 0 rfl) ?_
  refine lv_iconst (v := 1) hx hb dX6_smearFrom_1 (by decide) ?_
  refine lv_iadd hx hb dX6_smearFrom_2 ?_
  refine lv_i2l (v := ((p0 + (1 : Int32))).toInt64) hx hb dX6_smearFrom_3 rfl ?_
  refine lv_ldc2 (v := 86400000000) hx hb hown (hts _ q_974) dX6_smearFrom_4 ?_
  refine lv_lmul hx hb dX6_smearFrom_7 ?_
  refine lv_ldc2 (v := 20000000000) hx hb hown (hts _ q_975) dX6_smearFrom_8 ?_
  refine lv_lsub hx hb dX6_smearFrom_11 ?_
  exact W.lret (v := ((((p0 + (1 : Int32))).toInt64 * (86400000000 : Int64)) - (20000000000 : Int64))) hx hb hr (fun t ht hW => ⟨_, rfl, hv.symm.trans eV, ht⟩) (fun q h => nomatch h) dX6_smearFrom_12
def f_X6_held (p0 : Int64) : Int32 := if (500 : Int64) < p0 then (500 : Int32) else if p0 < ((-500) : Int64) then ((-500) : Int32) else (p0).toInt32
theorem hyX6_held : yX6_held.cls ≠ "java/lang/invoke/MethodHandle" ∧ yX6_held.cls ≠ "java/lang/invoke/VarHandle" ∧ (parseMethodDescriptor yX6_held.desc).map (fun d => d.parameters.length) = some 1 := by decide +kernel
set_option maxHeartbeats 4000000 in
set_option maxRecDepth 100000 in
theorem c_X6_held (l : Launch) (p0 : Int64)  : Met l yX6_held (.code yX6_held cX6_held 2 (some .int) :: AG) ({ frames := 0, cells := 0, slots := 0, locals := 0 } : Room) (fun v _ => v = ([.long p0] : List Value).toArray) (vp_Si (fun r => r = f_X6_held p0)) 0 0 (fun _ => False) := by
  refine sMet (by decide) (Nat.le_of_ble_eq_true rfl) ?_
  intro p e s m below meth c ls hx hb hr hml hlocks hown hts hl
  have hl : lv_has ls 2 [(0, .long p0)] := hl
  obtain ⟨V, eV⟩ : ∃ z, z = f_X6_held p0 := ⟨_, rfl⟩
  have hv := eV
  unfold f_X6_held at hv
  refine lv_lload_n hx hb dX6_held_0 rfl (lv_at hl 0 rfl) ?_
  refine lv_ldc2 (v := 500) hx hb hown (hts _ q_924) dX6_held_1 ?_
  refine jL_le (tgt := 14) hx hb dX6_held_4 dX6_held_5 (by decide) (fun c_1 => ?_) (fun c_1 => ?_)
  · have hv := hv.trans (if_pos c_1)
    refine lv_sipush (v := 500) hx hb dX6_held_8 (by decide) ?_
    refine lv_goto (tgt := 30) hx hb dX6_held_11 (by decide) ?_
    exact W.iret (v := (500 : Int32)) hx hb hr (fun t ht hW => ⟨_, rfl, hv.symm.trans eV, ht⟩) (fun q h => nomatch h) dX6_held_30
  · have hv := hv.trans (if_neg c_1)
    refine lv_lload_n hx hb dX6_held_14 rfl (lv_at hl 0 rfl) ?_
    refine lv_ldc2 (v := (-500)) hx hb hown (hts _ q_1137) dX6_held_15 ?_
    refine jL_ge (tgt := 28) hx hb dX6_held_18 dX6_held_19 (by decide) (fun c_2 => ?_) (fun c_2 => ?_)
    · have hv := hv.trans (if_pos c_2)
      refine lv_sipush (v := (-500)) hx hb dX6_held_22 (by decide) ?_
      refine lv_goto (tgt := 30) hx hb dX6_held_25 (by decide) ?_
      exact W.iret (v := ((-500) : Int32)) hx hb hr (fun t ht hW => ⟨_, rfl, hv.symm.trans eV, ht⟩) (fun q h => nomatch h) dX6_held_30
    · have hv := hv.trans (if_neg c_2)
      refine lv_lload_n hx hb dX6_held_28 rfl (lv_at hl 0 rfl) ?_
      refine lv_l2i (v := (p0).toInt32) hx hb dX6_held_29 rfl ?_
      exact W.iret (v := (p0).toInt32) hx hb hr (fun t ht hW => ⟨_, rfl, hv.symm.trans eV, ht⟩) (fun q h => nomatch h) dX6_held_30
def f_X6_reading (M : Mem)  : Int64 := bnd ((f_X6_down (gL M (1)) (1000000 : Int64))) fun x_1 => x_1
theorem hyX6_reading : yX6_reading.cls ≠ "java/lang/invoke/MethodHandle" ∧ yX6_reading.cls ≠ "java/lang/invoke/VarHandle" ∧ (parseMethodDescriptor yX6_reading.desc).map (fun d => d.parameters.length) = some 0 := by decide +kernel
set_option maxHeartbeats 4000000 in
set_option maxRecDepth 100000 in
theorem c_X6_reading (l : Launch) (dC : Nat → ClassId) (dI : Nat → Nat → Nat) (cA : Nat → ClassId) (ad : Nat → Nat) (hI : Inj 12 ad) (M : Mem) (hw0 : WFm M)  : Met l yX6_reading (.code yX6_reading cX6_reading 1 (some .long) :: AG) ({ frames := 1, cells := 0, slots := 0, locals := 25 } : Room) (va_Pc [.ref (ad (0))] (PM dC dI cA ad M)) (va_Ql (fun r u => r = f_X6_reading M  ∧ u = M) (PM dC dI cA ad) (adS 12 ad)) 0 0 (adS 12 ad) := by
  refine cMet (by decide) (Nat.le_of_ble_eq_true rfl) ?_
  intro p e s m below meth c ls hx hb hr hml hlocks hown hts hK hP hS hl
  have hA : ∀ q, adS 12 ad q → adS 12 ad q := fun _ h => h
  have hl : lv_has ls 1 [(0, .ref (ad (0)))] := hl
  obtain ⟨V, eV⟩ : ∃ z, z = f_X6_reading M  := ⟨_, rfl⟩
  have hv := eV
  unfold f_X6_reading at hv
  refine lv_aload_n hx hb dX6_reading_0 rfl (lv_at hl 0 rfl) ?_
  refine fg_X6_52 hx hb hts hK hP hown dX6_reading_1 ?_
  refine lv_ldc2 (v := 1000000) hx hb hown (hts _ q_914) dX6_reading_4 ?_
  refine kSl hx hb hml hown hts (As := [.long (gL M (1)), .long (1000000 : Int64)]) (rest := []) (c_X6_down l (gL M (1)) (1000000 : Int64) (by decide)) (mkS hts q_931 q_53 q_929 q_930 hyX6_down rfl rfl ⟨(Nat.le_of_ble_eq_true rfl), (Nat.le_of_ble_eq_true rfl)⟩) rfl hl.1 rfl (Nat.le_of_ble_eq_true rfl) dX6_reading_7 ⟨(Nat.le_of_ble_eq_true rfl), (Nat.le_of_ble_eq_true rfl)⟩ ?_
  refine lv_topl (fun x_1 ex_1 => ?_)
  have hv := bnd_name hv ex_1
  exact W.lret (v := x_1) hx hb hr (fun t ht hW => ⟨⟨_, M, rfl, ⟨hv.symm.trans eV, rfl⟩, by rw [ht]; exact hP, va_K.moved hW.alike hK⟩, hS.F ht⟩) hS.2.2 dX6_reading_10
def f_X6_restart_L85  : Nat → Nat → Mem → Mem
  | 0, _, M_85 => M_85
  | r + 1, i, M_85 => if nI i < (21 : Int32) then bnd (sB M_85 0 (upd (gB M_85 0) (i) (0 : Int32))) fun M_22 => f_X6_restart_L85   r (i + 1) M_22  else M_85
def f_X6_restart (M : Mem) (p0 : Int32) : Mem := bnd ((f_X6_in ((p0).toInt64) ((-1000000000) : Int64) (1000000000 : Int64))) fun x_1 => if x_1 = (0 : Int32) then bnd2 (f_X6_refused M  (1 : Int32)) fun r_4 M_3 => M_3 else bnd2 (f_X6_refused M  (0 : Int32)) fun r_8 M_7 => bnd (sL M_7 (0) (0 : Int64)) fun M_11 => bnd (sL M_11 (1) ((p0).toInt64 * (1000000 : Int64))) fun M_12 => bnd (sL M_12 (2) (0 : Int64)) fun M_13 => bnd (sI M_13 (1) (0 : Int32)) fun M_14 => bnd (sI M_14 (2) (0 : Int32)) fun M_15 => bnd (sI M_15 (3) (0 : Int32)) fun M_16 => bnd (sI M_16 (4) (0 : Int32)) fun M_17 => bnd (sI M_17 (5) (16 : Int32)) fun M_18 => bnd (sL M_18 (3) (0 : Int64)) fun M_19 => bnd (sI M_19 (6) (0 : Int32)) fun M_20 => f_X6_restart_L85   (21 + 1 - 0) 0 M_20 
theorem hyX6_restart : yX6_restart.cls ≠ "java/lang/invoke/MethodHandle" ∧ yX6_restart.cls ≠ "java/lang/invoke/VarHandle" ∧ (parseMethodDescriptor yX6_restart.desc).map (fun d => d.parameters.length) = some 1 := by decide +kernel
set_option maxHeartbeats 4000000 in
set_option maxRecDepth 100000 in
theorem c_X6_restart (l : Launch) (dC : Nat → ClassId) (dI : Nat → Nat → Nat) (cA : Nat → ClassId) (ad : Nat → Nat) (hI : Inj 12 ad) (M : Mem) (p0 : Int32) (hw0 : WFm M)  : Met l yX6_restart (.code yX6_restart cX6_restart 3 none :: AG) ({ frames := 1, cells := 0, slots := 0, locals := 25 } : Room) (va_Pc [.ref (ad (0)), .int p0] (PM dC dI cA ad M)) (va_Qv (fun u => u = f_X6_restart M p0 ∧ WFm u) (PM dC dI cA ad) (adS 12 ad)) 0 0 (adS 12 ad) := by
  refine cMet (by decide) (Nat.le_of_ble_eq_true rfl) ?_
  intro p e s m below meth c ls hx hb hr hml hlocks hown hts hK hP hS hl
  have hA : ∀ q, adS 12 ad q → adS 12 ad q := fun _ h => h
  have hl : lv_has ls 3 [(0, .ref (ad (0))), (1, .int p0)] := hl
  obtain ⟨V, eV⟩ : ∃ z, z = f_X6_restart M p0 := ⟨_, rfl⟩
  have hv := eV
  unfold f_X6_restart at hv
  refine lv_aload_n hx hb dX6_restart_0 rfl (lv_at hl 0 rfl) ?_
  refine lv_iload_n hx hb dX6_restart_1 rfl (lv_at hl 1 rfl) ?_
  refine lv_i2l (v := (p0).toInt64) hx hb dX6_restart_2 rfl ?_
  refine lv_ldc2 (v := (-1000000000)) hx hb hown (hts _ q_905) dX6_restart_3 ?_
  refine lv_ldc2 (v := 1000000000) hx hb hown (hts _ q_906) dX6_restart_6 ?_
  refine kSi hx hb hml hown hts (As := [.long ((p0).toInt64), .long ((-1000000000) : Int64), .long (1000000000 : Int64)]) (rest := [.ref (ad (0))]) (c_X6_in l ((p0).toInt64) ((-1000000000) : Int64) (1000000000 : Int64) ) (mkS hts q_909 q_53 q_907 q_908 hyX6_in rfl rfl ⟨(Nat.le_of_ble_eq_true rfl), (Nat.le_of_ble_eq_true rfl)⟩) rfl hl.1 rfl (Nat.le_of_ble_eq_true rfl) dX6_restart_9 ⟨(Nat.le_of_ble_eq_true rfl), (Nat.le_of_ble_eq_true rfl)⟩ ?_
  refine lv_topi (fun x_1 ex_1 => ?_)
  have hv := bnd_name hv ex_1
  have bx_1 : x_1 = 0 ∨ x_1 = 1 := by rw [ex_1]; exact f_X6_in_b ((p0).toInt64) ((-1000000000) : Int64) (1000000000 : Int64)
  refine j0_eq (tgt := 19) hx hb dX6_restart_12 (by decide) (fun c_2 => ?_) (fun c_2 => ?_)
  · have hv := hv.trans (if_pos c_2)
    refine lv_iconst (v := 1) hx hb dX6_restart_19 (by decide) ?_
    refine kVi hx hb hml hown hts hK hP hS hA (As := [.int (1 : Int32)]) (rest := []) (c_X6_refused l dC dI cA ad hI M  (1 : Int32) hw0 ) (mkV hts q_913 q_53 q_910 q_912 q_24 hyX6_refused rfl rfl ⟨(Nat.le_of_ble_eq_true rfl), (Nat.le_of_ble_eq_true rfl)⟩) (w_recv hK hP (k := 0) (by decide) lyM0 (q := (RX6, TX6, 26)) rfl) rfl hl.1 rfl (Nat.le_of_ble_eq_true rfl) dX6_restart_20 ⟨(Nat.le_of_ble_eq_true rfl), (Nat.le_of_ble_eq_true rfl)⟩ (fun r u H locs hw hP hS _ _ => ?_)
    obtain ⟨M_3, eM_3⟩ : ∃ z, z = u := ⟨_, rfl⟩
    rw [← eM_3] at hP hw
    obtain ⟨r_4, er_4⟩ : ∃ z, z = r := ⟨_, rfl⟩
    rw [← er_4] at hw
    refine w_eqi er_4.symm ?_
    obtain ⟨hw, wM_3⟩ := hw
    have gM_3 := hw
    have hv := bnd2_name hv hw
    have lr_4 : r_4 = 1 := congrArg Prod.fst hw
    refine w_eqi lr_4 ?_
    refine j0_eq (tgt := 27) hx hb dX6_restart_23 (by decide) (fun c_6 => absurd c_6 (by decide)) (fun _ => ?_)
    exact W.vret hx hb hr (fun t ht hW => ⟨⟨M_3, rfl, ⟨hv.symm.trans eV, wM_3⟩, by rw [ht]; exact hP, va_K.moved hW.alike hK⟩, hS.F ht⟩) hS.2.2 dX6_restart_26
  · have hv := hv.trans (if_neg c_2)
    refine lv_iconst (v := 0) hx hb dX6_restart_15 (by decide) ?_
    refine lv_goto (tgt := 20) hx hb dX6_restart_16 (by decide) ?_
    refine kVi hx hb hml hown hts hK hP hS hA (As := [.int (0 : Int32)]) (rest := []) (c_X6_refused l dC dI cA ad hI M  (0 : Int32) hw0 ) (mkV hts q_913 q_53 q_910 q_912 q_24 hyX6_refused rfl rfl ⟨(Nat.le_of_ble_eq_true rfl), (Nat.le_of_ble_eq_true rfl)⟩) (w_recv hK hP (k := 0) (by decide) lyM0 (q := (RX6, TX6, 26)) rfl) rfl hl.1 rfl (Nat.le_of_ble_eq_true rfl) dX6_restart_20 ⟨(Nat.le_of_ble_eq_true rfl), (Nat.le_of_ble_eq_true rfl)⟩ (fun r u H locs hw hP hS _ _ => ?_)
    obtain ⟨M_7, eM_7⟩ : ∃ z, z = u := ⟨_, rfl⟩
    rw [← eM_7] at hP hw
    obtain ⟨r_8, er_8⟩ : ∃ z, z = r := ⟨_, rfl⟩
    rw [← er_8] at hw
    refine w_eqi er_8.symm ?_
    obtain ⟨hw, wM_7⟩ := hw
    have gM_7 := hw
    have hv := bnd2_name hv hw
    have lr_8 : r_8 = 0 := congrArg Prod.fst hw
    refine w_eqi lr_8 ?_
    refine j0_eq (tgt := 27) hx hb dX6_restart_23 (by decide) (fun _ => ?_) (fun c_10 => absurd (by decide) c_10)
    refine lv_aload_n hx hb dX6_restart_27 rfl (lv_at hl 0 rfl) ?_
    refine lv_lconst (v := 0) hx hb dX6_restart_28 (by decide) ?_
    refine fp_X6_74 hx hb hts hK hP hI hS hA hown dX6_restart_29 (fun H locs hP hS => ?_)
    obtain ⟨M_11, eM_11⟩ : ∃ z : Mem, z = sL M_7 (0) (0 : Int64) := ⟨_, rfl⟩
    rw [← eM_11] at hP
    have hv := bnd_name hv eM_11
    have wM_11 : WFm M_11 := by rw [eM_11]; exact WFm_sL wM_7
    refine lv_aload_n hx hb dX6_restart_32 rfl (lv_at hl 0 rfl) ?_
    refine lv_iload_n hx hb dX6_restart_33 rfl (lv_at hl 1 rfl) ?_
    refine lv_i2l (v := (p0).toInt64) hx hb dX6_restart_34 rfl ?_
    refine lv_ldc2 (v := 1000000) hx hb hown (hts _ q_914) dX6_restart_35 ?_
    refine lv_lmul hx hb dX6_restart_38 ?_
    refine fp_X6_52 hx hb hts hK hP hI hS hA hown dX6_restart_39 (fun H locs hP hS => ?_)
    obtain ⟨M_12, eM_12⟩ : ∃ z : Mem, z = sL M_11 (1) ((p0).toInt64 * (1000000 : Int64)) := ⟨_, rfl⟩
    rw [← eM_12] at hP
    have hv := bnd_name hv eM_12
    have wM_12 : WFm M_12 := by rw [eM_12]; exact WFm_sL wM_11
    refine lv_aload_n hx hb dX6_restart_42 rfl (lv_at hl 0 rfl) ?_
    refine lv_lconst (v := 0) hx hb dX6_restart_43 (by decide) ?_
    refine fp_X6_77 hx hb hts hK hP hI hS hA hown dX6_restart_44 (fun H locs hP hS => ?_)
    obtain ⟨M_13, eM_13⟩ : ∃ z : Mem, z = sL M_12 (2) (0 : Int64) := ⟨_, rfl⟩
    rw [← eM_13] at hP
    have hv := bnd_name hv eM_13
    have wM_13 : WFm M_13 := by rw [eM_13]; exact WFm_sL wM_12
    refine lv_aload_n hx hb dX6_restart_47 rfl (lv_at hl 0 rfl) ?_
    refine lv_iconst (v := 0) hx hb dX6_restart_48 (by decide) ?_
    refine fp_X6_80 hx hb hts hK hP hI hS hA hown dX6_restart_49 (fun H locs hP hS => ?_)
    obtain ⟨M_14, eM_14⟩ : ∃ z : Mem, z = sI M_13 (1) (0 : Int32) := ⟨_, rfl⟩
    rw [← eM_14] at hP
    have hv := bnd_name hv eM_14
    have wM_14 : WFm M_14 := by rw [eM_14]; exact WFm_sI wM_13 (by decide)
    refine lv_aload_n hx hb dX6_restart_52 rfl (lv_at hl 0 rfl) ?_
    refine lv_iconst (v := 0) hx hb dX6_restart_53 (by decide) ?_
    refine fp_X6_83 hx hb hts hK hP hI hS hA hown dX6_restart_54 (fun H locs hP hS => ?_)
    obtain ⟨M_15, eM_15⟩ : ∃ z : Mem, z = sI M_14 (2) (0 : Int32) := ⟨_, rfl⟩
    rw [← eM_15] at hP
    have hv := bnd_name hv eM_15
    have wM_15 : WFm M_15 := by rw [eM_15]; exact WFm_sI wM_14 (by decide)
    refine lv_aload_n hx hb dX6_restart_57 rfl (lv_at hl 0 rfl) ?_
    refine lv_iconst (v := 0) hx hb dX6_restart_58 (by decide) ?_
    refine fp_X6_86 hx hb hts hK hP hI hS hA hown dX6_restart_59 (fun H locs hP hS => ?_)
    obtain ⟨M_16, eM_16⟩ : ∃ z : Mem, z = sI M_15 (3) (0 : Int32) := ⟨_, rfl⟩
    rw [← eM_16] at hP
    have hv := bnd_name hv eM_16
    have wM_16 : WFm M_16 := by rw [eM_16]; exact WFm_sI wM_15 (by decide)
    refine lv_aload_n hx hb dX6_restart_62 rfl (lv_at hl 0 rfl) ?_
    refine lv_iconst (v := 0) hx hb dX6_restart_63 (by decide) ?_
    refine fp_X6_89 hx hb hts hK hP hI hS hA hown dX6_restart_64 (fun H locs hP hS => ?_)
    obtain ⟨M_17, eM_17⟩ : ∃ z : Mem, z = sI M_16 (4) (0 : Int32) := ⟨_, rfl⟩
    rw [← eM_17] at hP
    have hv := bnd_name hv eM_17
    have wM_17 : WFm M_17 := by rw [eM_17]; exact WFm_sI wM_16 (by decide)
    refine lv_aload_n hx hb dX6_restart_67 rfl (lv_at hl 0 rfl) ?_
    refine lv_bipush (v := 16) hx hb dX6_restart_68 (by decide) ?_
    refine fp_X6_7 hx hb hts hK hP hI hS hA hown dX6_restart_70 (fun H locs hP hS => ?_)
    obtain ⟨M_18, eM_18⟩ : ∃ z : Mem, z = sI M_17 (5) (16 : Int32) := ⟨_, rfl⟩
    rw [← eM_18] at hP
    have hv := bnd_name hv eM_18
    have wM_18 : WFm M_18 := by rw [eM_18]; exact WFm_sI wM_17 (by decide)
    refine lv_aload_n hx hb dX6_restart_73 rfl (lv_at hl 0 rfl) ?_
    refine lv_lconst (v := 0) hx hb dX6_restart_74 (by decide) ?_
    refine fp_X6_92 hx hb hts hK hP hI hS hA hown dX6_restart_75 (fun H locs hP hS => ?_)
    obtain ⟨M_19, eM_19⟩ : ∃ z : Mem, z = sL M_18 (3) (0 : Int64) := ⟨_, rfl⟩
    rw [← eM_19] at hP
    have hv := bnd_name hv eM_19
    have wM_19 : WFm M_19 := by rw [eM_19]; exact WFm_sL wM_18
    refine lv_aload_n hx hb dX6_restart_78 rfl (lv_at hl 0 rfl) ?_
    refine lv_iconst (v := 0) hx hb dX6_restart_79 (by decide) ?_
    refine fp_X6_95 hx hb hts hK hP hI hS hA hown dX6_restart_80 (fun H locs hP hS => ?_)
    obtain ⟨M_20, eM_20⟩ : ∃ z : Mem, z = sI M_19 (6) (0 : Int32) := ⟨_, rfl⟩
    rw [← eM_20] at hP
    have hv := bnd_name hv eM_20
    have wM_20 : WFm M_20 := by rw [eM_20]; exact WFm_srv (0) wM_19 (by omega) rfl
    refine lv_iconst (v := 0) hx hb dX6_restart_83 (by decide) ?_
    refine lv_istore_n (lv' := [(2, .int (0 : Int32)), (0, .ref (ad (0))), (1, .int p0)]) hx hb dX6_restart_84 rfl hl (by decide) rfl (fun ls hl => ?_)
    have L85 : ∀ (r i : Nat) (M_85 : Mem) (H : Heap) (locs : List Loc) (ls : Array Slot), i + r = 21 + 1 → i ≤ 21 → (WFm M_85) → V = f_X6_restart_L85   r i M_85  → va_P (dC, dI) vwCl (wld 12 layM cA ad M_85) H → va_S (adS 12 ad) s.heap H locs → lv_has ls 3 [(2, .int (nI i)), (0, .ref (ad (0))), (1, .int p0)] → W p l e ({ frames := 1, cells := 0, slots := 0, locals := 25 } : Room) s m ([.ref (ad (0)), .int p0] : List Value).toArray below meth c H locs 0 0 (MQ below (va_Qv (fun u => u = f_X6_restart M p0 ∧ WFm u) (PM dC dI cA ad) (adS 12 ad)) ([.ref (ad (0)), .int p0] : List Value).toArray s 0 0 (adS 12 ad)) (F0 m 85 ls []) := by
      intro r
      induction r with
      | zero =>
        intro i M_85 H locs ls hir hib
        omega
      | succ r ih =>
        intro i M_85 H locs ls hir hib hx0_85 hv hP hS hl
        rw [f_X6_restart_L85] at hv
        refine lv_iload_n hx hb dX6_restart_85 rfl (lv_at hl 0 rfl) ?_
        refine lv_bipush (v := 21) hx hb dX6_restart_86 (by decide) ?_
        refine jI_ge (tgt := 104) hx hb dX6_restart_88 (by decide) (fun c_21 => ?_) (fun c_21 => ?_)
        · have hv := hv.trans (if_pos c_21)
          have hc_21 : i < 21 := nI_lt8 (n := 21) c_21 (by omega) (by decide)
          refine lv_aload_n hx hb dX6_restart_91 rfl (lv_at hl 1 rfl) ?_
          refine fg_X6_13 hx hb hts hK hP hown dX6_restart_92 ?_
          refine lv_iload_n hx hb dX6_restart_95 rfl (lv_at hl 0 rfl) ?_
          refine lv_iconst (v := 0) hx hb dX6_restart_96 (by decide) ?_
          refine w_iastN hx hb hK hP hI hS hA (k := 1) (by decide) lyM1 uAM1 (i := i) (by omega) (by decide) dX6_restart_97 (fun H locs hP hS => ?_)
          obtain ⟨M_22, eM_22⟩ : ∃ z : Mem, z = sB M_85 0 (upd (gB M_85 0) (i) (0 : Int32)) := ⟨_, rfl⟩
          rw [← eM_22] at hP
          have hv := bnd_name hv eM_22
          have wM_22 : WFm M_22 := by rw [eM_22]; exact WFm_sB hx0_85 (by decide)
          refine lv_iinc (v := nI (i + 1)) (lv' := [(2, .int (nI (i + 1))), (0, .ref (ad (0))), (1, .int p0)]) hx hb dX6_restart_98 hl (k := 0) rfl (show nI (i) + 1 = nI (i + 1) from nI_1 _) (by decide) rfl (fun ls hl => ?_)
          refine lv_goto (tgt := 85) hx hb dX6_restart_101 (by decide) ?_
          exact ih (i + 1)  M_22 _ _ _ (by omega) (by omega) (wM_22) hv hP hS (lv_sub hl [0, 1, 2] rfl)
        · have hv := hv.trans (if_neg c_21)
          have hc_21 : ¬ i < 21 := fun h => c_21 (nI_lt h (by decide))
          exact W.vret hx hb hr (fun t ht hW => ⟨⟨M_85, rfl, ⟨hv.symm.trans eV, hx0_85⟩, by rw [ht]; exact hP, va_K.moved hW.alike hK⟩, hS.F ht⟩) hS.2.2 dX6_restart_104
    exact L85 (21 + 1 - 0) 0  M_20 _ _ _ (by omega) (by omega) (wM_20) hv hP hS (lv_sub hl [0, 1, 2] rfl)
def f_X6_goOn (M : Mem) (p0 : Int32) : Mem := bnd (((500 : Int64) * (p0).toInt64)) fun x_1 => if x_1 < gL M (2) then bnd (sL M (0) (gL M (0) + (p0).toInt64)) fun M_3 => bnd (sL M_3 (1) (gL M_3 (1) + (((p0).toInt64 * (((1000000 : Int64) + (gI M_3 (1)).toInt64) + (gI M_3 (2)).toInt64)) + x_1))) fun M_4 => bnd (sL M_4 (2) (gL M_4 (2) - x_1)) fun M_5 => M_5 else if gL M (2) < (-x_1) then bnd ((-x_1)) fun x_7 => bnd (sL M (0) (gL M (0) + (p0).toInt64)) fun M_8 => bnd (sL M_8 (1) (gL M_8 (1) + (((p0).toInt64 * (((1000000 : Int64) + (gI M_8 (1)).toInt64) + (gI M_8 (2)).toInt64)) + x_7))) fun M_9 => bnd (sL M_9 (2) (gL M_9 (2) - x_7)) fun M_10 => M_10 else bnd (gL M (2)) fun x_11 => bnd (sL M (0) (gL M (0) + (p0).toInt64)) fun M_12 => bnd (sL M_12 (1) (gL M_12 (1) + (((p0).toInt64 * (((1000000 : Int64) + (gI M_12 (1)).toInt64) + (gI M_12 (2)).toInt64)) + x_11))) fun M_13 => bnd (sL M_13 (2) (gL M_13 (2) - x_11)) fun M_14 => M_14
theorem hyX6_goOn : yX6_goOn.cls ≠ "java/lang/invoke/MethodHandle" ∧ yX6_goOn.cls ≠ "java/lang/invoke/VarHandle" ∧ (parseMethodDescriptor yX6_goOn.desc).map (fun d => d.parameters.length) = some 1 := by decide +kernel
set_option maxHeartbeats 4000000 in
set_option maxRecDepth 100000 in
theorem c_X6_goOn (l : Launch) (dC : Nat → ClassId) (dI : Nat → Nat → Nat) (cA : Nat → ClassId) (ad : Nat → Nat) (hI : Inj 12 ad) (M : Mem) (p0 : Int32) (hw0 : WFm M)  : Met l yX6_goOn (.code yX6_goOn cX6_goOn 6 none :: AG) ({ frames := 0, cells := 0, slots := 0, locals := 0 } : Room) (va_Pc [.ref (ad (0)), .int p0] (PM dC dI cA ad M)) (va_Qv (fun u => u = f_X6_goOn M p0 ∧ WFm u) (PM dC dI cA ad) (adS 12 ad)) 0 0 (adS 12 ad) := by
  refine cMet (by decide) (Nat.le_of_ble_eq_true rfl) ?_
  intro p e s m below meth c ls hx hb hr hml hlocks hown hts hK hP hS hl
  have hA : ∀ q, adS 12 ad q → adS 12 ad q := fun _ h => h
  have hl : lv_has ls 6 [(0, .ref (ad (0))), (1, .int p0)] := hl
  obtain ⟨V, eV⟩ : ∃ z, z = f_X6_goOn M p0 := ⟨_, rfl⟩
  have hv := eV
  unfold f_X6_goOn at hv
  refine lv_ldc2 (v := 500) hx hb hown (hts _ q_924) dX6_goOn_0 ?_
  refine lv_iload_n hx hb dX6_goOn_3 rfl (lv_at hl 1 rfl) ?_
  refine lv_i2l (v := (p0).toInt64) hx hb dX6_goOn_4 rfl ?_
  refine lv_lmul hx hb dX6_goOn_5 ?_
  refine lv_topl (fun x_1 ex_1 => ?_)
  have hv := bnd_name hv ex_1
  refine lv_lstore_n (lv' := [(2, .long x_1), (0, .ref (ad (0))), (1, .int p0)]) hx hb dX6_goOn_6 rfl hl (by decide) rfl (fun ls hl => ?_)
  refine lv_aload_n hx hb dX6_goOn_7 rfl (lv_at hl 1 rfl) ?_
  refine fg_X6_77 hx hb hts hK hP hown dX6_goOn_8 ?_
  refine lv_lload_n hx hb dX6_goOn_11 rfl (lv_at hl 0 rfl) ?_
  refine jL_le (tgt := 20) hx hb dX6_goOn_12 dX6_goOn_13 (by decide) (fun c_2 => ?_) (fun c_2 => ?_)
  · have hv := hv.trans (if_pos c_2)
    refine lv_lload_n hx hb dX6_goOn_16 rfl (lv_at hl 0 rfl) ?_
    refine lv_goto (tgt := 39) hx hb dX6_goOn_17 (by decide) ?_
    refine lv_lstore (lv' := [(4, .long x_1), (2, .long x_1), (0, .ref (ad (0))), (1, .int p0)]) hx hb dX6_goOn_39 hl (by decide) rfl (fun ls hl => ?_)
    refine lv_aload_n hx hb dX6_goOn_41 rfl (lv_at hl 2 rfl) ?_
    refine lv_dup hx hb dX6_goOn_42 rfl ?_
    refine fg_X6_74 hx hb hts hK hP hown dX6_goOn_43 ?_
    refine lv_iload_n hx hb dX6_goOn_46 rfl (lv_at hl 3 rfl) ?_
    refine lv_i2l (v := (p0).toInt64) hx hb dX6_goOn_47 rfl ?_
    refine lv_ladd hx hb dX6_goOn_48 ?_
    refine fp_X6_74 hx hb hts hK hP hI hS hA hown dX6_goOn_49 (fun H locs hP hS => ?_)
    obtain ⟨M_3, eM_3⟩ : ∃ z : Mem, z = sL M (0) (gL M (0) + (p0).toInt64) := ⟨_, rfl⟩
    rw [← eM_3] at hP
    have hv := bnd_name hv eM_3
    have wM_3 : WFm M_3 := by rw [eM_3]; exact WFm_sL hw0
    refine lv_aload_n hx hb dX6_goOn_52 rfl (lv_at hl 2 rfl) ?_
    refine lv_dup hx hb dX6_goOn_53 rfl ?_
    refine fg_X6_52 hx hb hts hK hP hown dX6_goOn_54 ?_
    refine lv_iload_n hx hb dX6_goOn_57 rfl (lv_at hl 3 rfl) ?_
    refine lv_i2l (v := (p0).toInt64) hx hb dX6_goOn_58 rfl ?_
    refine lv_ldc2 (v := 1000000) hx hb hown (hts _ q_914) dX6_goOn_59 ?_
    refine lv_aload_n hx hb dX6_goOn_62 rfl (lv_at hl 2 rfl) ?_
    refine fg_X6_80 hx hb hts hK hP hown dX6_goOn_63 ?_
    refine lv_i2l (v := (gI M_3 (1)).toInt64) hx hb dX6_goOn_66 rfl ?_
    refine lv_ladd hx hb dX6_goOn_67 ?_
    refine lv_aload_n hx hb dX6_goOn_68 rfl (lv_at hl 2 rfl) ?_
    refine fg_X6_83 hx hb hts hK hP hown dX6_goOn_69 ?_
    refine lv_i2l (v := (gI M_3 (2)).toInt64) hx hb dX6_goOn_72 rfl ?_
    refine lv_ladd hx hb dX6_goOn_73 ?_
    refine lv_lmul hx hb dX6_goOn_74 ?_
    refine lv_lload hx hb dX6_goOn_75 (lv_at hl 0 rfl) ?_
    refine lv_ladd hx hb dX6_goOn_77 ?_
    refine lv_ladd hx hb dX6_goOn_78 ?_
    refine fp_X6_52 hx hb hts hK hP hI hS hA hown dX6_goOn_79 (fun H locs hP hS => ?_)
    obtain ⟨M_4, eM_4⟩ : ∃ z : Mem, z = sL M_3 (1) (gL M_3 (1) + (((p0).toInt64 * (((1000000 : Int64) + (gI M_3 (1)).toInt64) + (gI M_3 (2)).toInt64)) + x_1)) := ⟨_, rfl⟩
    rw [← eM_4] at hP
    have hv := bnd_name hv eM_4
    have wM_4 : WFm M_4 := by rw [eM_4]; exact WFm_sL wM_3
    refine lv_aload_n hx hb dX6_goOn_82 rfl (lv_at hl 2 rfl) ?_
    refine lv_dup hx hb dX6_goOn_83 rfl ?_
    refine fg_X6_77 hx hb hts hK hP hown dX6_goOn_84 ?_
    refine lv_lload hx hb dX6_goOn_87 (lv_at hl 0 rfl) ?_
    refine lv_lsub hx hb dX6_goOn_89 ?_
    refine fp_X6_77 hx hb hts hK hP hI hS hA hown dX6_goOn_90 (fun H locs hP hS => ?_)
    obtain ⟨M_5, eM_5⟩ : ∃ z : Mem, z = sL M_4 (2) (gL M_4 (2) - x_1) := ⟨_, rfl⟩
    rw [← eM_5] at hP
    have hv := bnd_name hv eM_5
    have wM_5 : WFm M_5 := by rw [eM_5]; exact WFm_sL wM_4
    exact W.vret hx hb hr (fun t ht hW => ⟨⟨M_5, rfl, ⟨hv.symm.trans eV, wM_5⟩, by rw [ht]; exact hP, va_K.moved hW.alike hK⟩, hS.F ht⟩) hS.2.2 dX6_goOn_93
  · have hv := hv.trans (if_neg c_2)
    refine lv_aload_n hx hb dX6_goOn_20 rfl (lv_at hl 1 rfl) ?_
    refine fg_X6_77 hx hb hts hK hP hown dX6_goOn_21 ?_
    refine lv_lload_n hx hb dX6_goOn_24 rfl (lv_at hl 0 rfl) ?_
    refine lv_lneg hx hb dX6_goOn_25 ?_
    refine jL_ge (tgt := 35) hx hb dX6_goOn_26 dX6_goOn_27 (by decide) (fun c_6 => ?_) (fun c_6 => ?_)
    · have hv := hv.trans (if_pos c_6)
      refine lv_lload_n hx hb dX6_goOn_30 rfl (lv_at hl 0 rfl) ?_
      refine lv_lneg hx hb dX6_goOn_31 ?_
      refine lv_goto (tgt := 39) hx hb dX6_goOn_32 (by decide) ?_
      refine lv_topl (fun x_7 ex_7 => ?_)
      have hv := bnd_name hv ex_7
      refine lv_lstore (lv' := [(4, .long x_7), (2, .long x_1), (0, .ref (ad (0))), (1, .int p0)]) hx hb dX6_goOn_39 hl (by decide) rfl (fun ls hl => ?_)
      refine lv_aload_n hx hb dX6_goOn_41 rfl (lv_at hl 2 rfl) ?_
      refine lv_dup hx hb dX6_goOn_42 rfl ?_
      refine fg_X6_74 hx hb hts hK hP hown dX6_goOn_43 ?_
      refine lv_iload_n hx hb dX6_goOn_46 rfl (lv_at hl 3 rfl) ?_
      refine lv_i2l (v := (p0).toInt64) hx hb dX6_goOn_47 rfl ?_
      refine lv_ladd hx hb dX6_goOn_48 ?_
      refine fp_X6_74 hx hb hts hK hP hI hS hA hown dX6_goOn_49 (fun H locs hP hS => ?_)
      obtain ⟨M_8, eM_8⟩ : ∃ z : Mem, z = sL M (0) (gL M (0) + (p0).toInt64) := ⟨_, rfl⟩
      rw [← eM_8] at hP
      have hv := bnd_name hv eM_8
      have wM_8 : WFm M_8 := by rw [eM_8]; exact WFm_sL hw0
      refine lv_aload_n hx hb dX6_goOn_52 rfl (lv_at hl 2 rfl) ?_
      refine lv_dup hx hb dX6_goOn_53 rfl ?_
      refine fg_X6_52 hx hb hts hK hP hown dX6_goOn_54 ?_
      refine lv_iload_n hx hb dX6_goOn_57 rfl (lv_at hl 3 rfl) ?_
      refine lv_i2l (v := (p0).toInt64) hx hb dX6_goOn_58 rfl ?_
      refine lv_ldc2 (v := 1000000) hx hb hown (hts _ q_914) dX6_goOn_59 ?_
      refine lv_aload_n hx hb dX6_goOn_62 rfl (lv_at hl 2 rfl) ?_
      refine fg_X6_80 hx hb hts hK hP hown dX6_goOn_63 ?_
      refine lv_i2l (v := (gI M_8 (1)).toInt64) hx hb dX6_goOn_66 rfl ?_
      refine lv_ladd hx hb dX6_goOn_67 ?_
      refine lv_aload_n hx hb dX6_goOn_68 rfl (lv_at hl 2 rfl) ?_
      refine fg_X6_83 hx hb hts hK hP hown dX6_goOn_69 ?_
      refine lv_i2l (v := (gI M_8 (2)).toInt64) hx hb dX6_goOn_72 rfl ?_
      refine lv_ladd hx hb dX6_goOn_73 ?_
      refine lv_lmul hx hb dX6_goOn_74 ?_
      refine lv_lload hx hb dX6_goOn_75 (lv_at hl 0 rfl) ?_
      refine lv_ladd hx hb dX6_goOn_77 ?_
      refine lv_ladd hx hb dX6_goOn_78 ?_
      refine fp_X6_52 hx hb hts hK hP hI hS hA hown dX6_goOn_79 (fun H locs hP hS => ?_)
      obtain ⟨M_9, eM_9⟩ : ∃ z : Mem, z = sL M_8 (1) (gL M_8 (1) + (((p0).toInt64 * (((1000000 : Int64) + (gI M_8 (1)).toInt64) + (gI M_8 (2)).toInt64)) + x_7)) := ⟨_, rfl⟩
      rw [← eM_9] at hP
      have hv := bnd_name hv eM_9
      have wM_9 : WFm M_9 := by rw [eM_9]; exact WFm_sL wM_8
      refine lv_aload_n hx hb dX6_goOn_82 rfl (lv_at hl 2 rfl) ?_
      refine lv_dup hx hb dX6_goOn_83 rfl ?_
      refine fg_X6_77 hx hb hts hK hP hown dX6_goOn_84 ?_
      refine lv_lload hx hb dX6_goOn_87 (lv_at hl 0 rfl) ?_
      refine lv_lsub hx hb dX6_goOn_89 ?_
      refine fp_X6_77 hx hb hts hK hP hI hS hA hown dX6_goOn_90 (fun H locs hP hS => ?_)
      obtain ⟨M_10, eM_10⟩ : ∃ z : Mem, z = sL M_9 (2) (gL M_9 (2) - x_7) := ⟨_, rfl⟩
      rw [← eM_10] at hP
      have hv := bnd_name hv eM_10
      have wM_10 : WFm M_10 := by rw [eM_10]; exact WFm_sL wM_9
      exact W.vret hx hb hr (fun t ht hW => ⟨⟨M_10, rfl, ⟨hv.symm.trans eV, wM_10⟩, by rw [ht]; exact hP, va_K.moved hW.alike hK⟩, hS.F ht⟩) hS.2.2 dX6_goOn_93
    · have hv := hv.trans (if_neg c_6)
      refine lv_aload_n hx hb dX6_goOn_35 rfl (lv_at hl 1 rfl) ?_
      refine fg_X6_77 hx hb hts hK hP hown dX6_goOn_36 ?_
      refine lv_topl (fun x_11 ex_11 => ?_)
      have hv := bnd_name hv ex_11
      refine lv_lstore (lv' := [(4, .long x_11), (2, .long x_1), (0, .ref (ad (0))), (1, .int p0)]) hx hb dX6_goOn_39 hl (by decide) rfl (fun ls hl => ?_)
      refine lv_aload_n hx hb dX6_goOn_41 rfl (lv_at hl 2 rfl) ?_
      refine lv_dup hx hb dX6_goOn_42 rfl ?_
      refine fg_X6_74 hx hb hts hK hP hown dX6_goOn_43 ?_
      refine lv_iload_n hx hb dX6_goOn_46 rfl (lv_at hl 3 rfl) ?_
      refine lv_i2l (v := (p0).toInt64) hx hb dX6_goOn_47 rfl ?_
      refine lv_ladd hx hb dX6_goOn_48 ?_
      refine fp_X6_74 hx hb hts hK hP hI hS hA hown dX6_goOn_49 (fun H locs hP hS => ?_)
      obtain ⟨M_12, eM_12⟩ : ∃ z : Mem, z = sL M (0) (gL M (0) + (p0).toInt64) := ⟨_, rfl⟩
      rw [← eM_12] at hP
      have hv := bnd_name hv eM_12
      have wM_12 : WFm M_12 := by rw [eM_12]; exact WFm_sL hw0
      refine lv_aload_n hx hb dX6_goOn_52 rfl (lv_at hl 2 rfl) ?_
      refine lv_dup hx hb dX6_goOn_53 rfl ?_
      refine fg_X6_52 hx hb hts hK hP hown dX6_goOn_54 ?_
      refine lv_iload_n hx hb dX6_goOn_57 rfl (lv_at hl 3 rfl) ?_
      refine lv_i2l (v := (p0).toInt64) hx hb dX6_goOn_58 rfl ?_
      refine lv_ldc2 (v := 1000000) hx hb hown (hts _ q_914) dX6_goOn_59 ?_
      refine lv_aload_n hx hb dX6_goOn_62 rfl (lv_at hl 2 rfl) ?_
      refine fg_X6_80 hx hb hts hK hP hown dX6_goOn_63 ?_
      refine lv_i2l (v := (gI M_12 (1)).toInt64) hx hb dX6_goOn_66 rfl ?_
      refine lv_ladd hx hb dX6_goOn_67 ?_
      refine lv_aload_n hx hb dX6_goOn_68 rfl (lv_at hl 2 rfl) ?_
      refine fg_X6_83 hx hb hts hK hP hown dX6_goOn_69 ?_
      refine lv_i2l (v := (gI M_12 (2)).toInt64) hx hb dX6_goOn_72 rfl ?_
      refine lv_ladd hx hb dX6_goOn_73 ?_
      refine lv_lmul hx hb dX6_goOn_74 ?_
      refine lv_lload hx hb dX6_goOn_75 (lv_at hl 0 rfl) ?_
      refine lv_ladd hx hb dX6_goOn_77 ?_
      refine lv_ladd hx hb dX6_goOn_78 ?_
      refine fp_X6_52 hx hb hts hK hP hI hS hA hown dX6_goOn_79 (fun H locs hP hS => ?_)
      obtain ⟨M_13, eM_13⟩ : ∃ z : Mem, z = sL M_12 (1) (gL M_12 (1) + (((p0).toInt64 * (((1000000 : Int64) + (gI M_12 (1)).toInt64) + (gI M_12 (2)).toInt64)) + x_11)) := ⟨_, rfl⟩
      rw [← eM_13] at hP
      have hv := bnd_name hv eM_13
      have wM_13 : WFm M_13 := by rw [eM_13]; exact WFm_sL wM_12
      refine lv_aload_n hx hb dX6_goOn_82 rfl (lv_at hl 2 rfl) ?_
      refine lv_dup hx hb dX6_goOn_83 rfl ?_
      refine fg_X6_77 hx hb hts hK hP hown dX6_goOn_84 ?_
      refine lv_lload hx hb dX6_goOn_87 (lv_at hl 0 rfl) ?_
      refine lv_lsub hx hb dX6_goOn_89 ?_
      refine fp_X6_77 hx hb hts hK hP hI hS hA hown dX6_goOn_90 (fun H locs hP hS => ?_)
      obtain ⟨M_14, eM_14⟩ : ∃ z : Mem, z = sL M_13 (2) (gL M_13 (2) - x_11) := ⟨_, rfl⟩
      rw [← eM_14] at hP
      have hv := bnd_name hv eM_14
      have wM_14 : WFm M_14 := by rw [eM_14]; exact WFm_sL wM_13
      exact W.vret hx hb hr (fun t ht hW => ⟨⟨M_14, rfl, ⟨hv.symm.trans eV, wM_14⟩, by rw [ht]; exact hP, va_K.moved hW.alike hK⟩, hS.F ht⟩) hS.2.2 dX6_goOn_93
def f_X6_pass (M : Mem) (p0 : Int32) : Int64 × Mem := bnd ((f_X6_in ((p0).toInt64) (1 : Int64) (1000000000 : Int64))) fun x_1 => if x_1 = (0 : Int32) then bnd2 (f_X6_refused M  (1 : Int32)) fun r_4 M_3 => ((0 : Int64), M_3) else if (1000000000000 : Int64) < (gL M (0) + (p0).toInt64) then bnd2 (f_X6_refused M  (2 : Int32)) fun r_9 M_8 => ((0 : Int64), M_8) else bnd2 (f_X6_refused M  (0 : Int32)) fun r_13 M_12 => bnd (f_X6_goOn M_12  p0) fun M_16 => bnd (f_X6_reading M_16  ) fun r_17 => (r_17, M_16)
theorem hyX6_pass : yX6_pass.cls ≠ "java/lang/invoke/MethodHandle" ∧ yX6_pass.cls ≠ "java/lang/invoke/VarHandle" ∧ (parseMethodDescriptor yX6_pass.desc).map (fun d => d.parameters.length) = some 1 := by decide +kernel
set_option maxHeartbeats 4000000 in
set_option maxRecDepth 100000 in
theorem c_X6_pass (l : Launch) (dC : Nat → ClassId) (dI : Nat → Nat → Nat) (cA : Nat → ClassId) (ad : Nat → Nat) (hI : Inj 12 ad) (M : Mem) (p0 : Int32) (hw0 : WFm M)  : Met l yX6_pass (.code yX6_pass cX6_pass 2 (some .long) :: AG) ({ frames := 2, cells := 0, slots := 0, locals := 45 } : Room) (va_Pc [.ref (ad (0)), .int p0] (PM dC dI cA ad M)) (va_Ql (fun r u => (r, u) = f_X6_pass M p0 ∧ WFm u) (PM dC dI cA ad) (adS 12 ad)) 0 0 (adS 12 ad) := by
  refine cMet (by decide) (Nat.le_of_ble_eq_true rfl) ?_
  intro p e s m below meth c ls hx hb hr hml hlocks hown hts hK hP hS hl
  have hA : ∀ q, adS 12 ad q → adS 12 ad q := fun _ h => h
  have hl : lv_has ls 2 [(0, .ref (ad (0))), (1, .int p0)] := hl
  obtain ⟨V, eV⟩ : ∃ z, z = f_X6_pass M p0 := ⟨_, rfl⟩
  have hv := eV
  unfold f_X6_pass at hv
  refine lv_aload_n hx hb dX6_pass_0 rfl (lv_at hl 0 rfl) ?_
  refine lv_iload_n hx hb dX6_pass_1 rfl (lv_at hl 1 rfl) ?_
  refine lv_i2l (v := (p0).toInt64) hx hb dX6_pass_2 rfl ?_
  refine lv_lconst (v := 1) hx hb dX6_pass_3 (by decide) ?_
  refine lv_ldc2 (v := 1000000000) hx hb hown (hts _ q_906) dX6_pass_4 ?_
  refine kSi hx hb hml hown hts (As := [.long ((p0).toInt64), .long (1 : Int64), .long (1000000000 : Int64)]) (rest := [.ref (ad (0))]) (c_X6_in l ((p0).toInt64) (1 : Int64) (1000000000 : Int64) ) (mkS hts q_909 q_53 q_907 q_908 hyX6_in rfl rfl ⟨(Nat.le_of_ble_eq_true rfl), (Nat.le_of_ble_eq_true rfl)⟩) rfl hl.1 rfl (Nat.le_of_ble_eq_true rfl) dX6_pass_7 ⟨(Nat.le_of_ble_eq_true rfl), (Nat.le_of_ble_eq_true rfl)⟩ ?_
  refine lv_topi (fun x_1 ex_1 => ?_)
  have hv := bnd_name hv ex_1
  have bx_1 : x_1 = 0 ∨ x_1 = 1 := by rw [ex_1]; exact f_X6_in_b ((p0).toInt64) (1 : Int64) (1000000000 : Int64)
  refine j0_ne (tgt := 17) hx hb dX6_pass_10 (by decide) (fun c_2 => ?_) (fun c_2 => ?_)
  · have hv := hv.trans (if_pos c_2)
    refine lv_iconst (v := 1) hx hb dX6_pass_13 (by decide) ?_
    refine lv_goto (tgt := 36) hx hb dX6_pass_14 (by decide) ?_
    refine kVi hx hb hml hown hts hK hP hS hA (As := [.int (1 : Int32)]) (rest := []) (c_X6_refused l dC dI cA ad hI M  (1 : Int32) hw0 ) (mkV hts q_913 q_53 q_910 q_912 q_24 hyX6_refused rfl rfl ⟨(Nat.le_of_ble_eq_true rfl), (Nat.le_of_ble_eq_true rfl)⟩) (w_recv hK hP (k := 0) (by decide) lyM0 (q := (RX6, TX6, 26)) rfl) rfl hl.1 rfl (Nat.le_of_ble_eq_true rfl) dX6_pass_36 ⟨(Nat.le_of_ble_eq_true rfl), (Nat.le_of_ble_eq_true rfl)⟩ (fun r u H locs hw hP hS _ _ => ?_)
    obtain ⟨M_3, eM_3⟩ : ∃ z, z = u := ⟨_, rfl⟩
    rw [← eM_3] at hP hw
    obtain ⟨r_4, er_4⟩ : ∃ z, z = r := ⟨_, rfl⟩
    rw [← er_4] at hw
    refine w_eqi er_4.symm ?_
    obtain ⟨hw, wM_3⟩ := hw
    have gM_3 := hw
    have hv := bnd2_name hv hw
    have lr_4 : r_4 = 1 := congrArg Prod.fst hw
    refine w_eqi lr_4 ?_
    refine j0_eq (tgt := 44) hx hb dX6_pass_39 (by decide) (fun c_6 => absurd c_6 (by decide)) (fun _ => ?_)
    refine lv_lconst (v := 0) hx hb dX6_pass_42 (by decide) ?_
    exact W.lret (v := (0 : Int64)) hx hb hr (fun t ht hW => ⟨⟨_, M_3, rfl, ⟨hv.symm.trans eV, wM_3⟩, by rw [ht]; exact hP, va_K.moved hW.alike hK⟩, hS.F ht⟩) hS.2.2 dX6_pass_43
  · have hv := hv.trans (if_neg c_2)
    refine lv_aload_n hx hb dX6_pass_17 rfl (lv_at hl 0 rfl) ?_
    refine fg_X6_74 hx hb hts hK hP hown dX6_pass_18 ?_
    refine lv_iload_n hx hb dX6_pass_21 rfl (lv_at hl 1 rfl) ?_
    refine lv_i2l (v := (p0).toInt64) hx hb dX6_pass_22 rfl ?_
    refine lv_ladd hx hb dX6_pass_23 ?_
    refine lv_ldc2 (v := 1000000000000) hx hb hown (hts _ q_919) dX6_pass_24 ?_
    refine jL_le (tgt := 35) hx hb dX6_pass_27 dX6_pass_28 (by decide) (fun c_7 => ?_) (fun c_7 => ?_)
    · have hv := hv.trans (if_pos c_7)
      refine lv_iconst (v := 2) hx hb dX6_pass_31 (by decide) ?_
      refine lv_goto (tgt := 36) hx hb dX6_pass_32 (by decide) ?_
      refine kVi hx hb hml hown hts hK hP hS hA (As := [.int (2 : Int32)]) (rest := []) (c_X6_refused l dC dI cA ad hI M  (2 : Int32) hw0 ) (mkV hts q_913 q_53 q_910 q_912 q_24 hyX6_refused rfl rfl ⟨(Nat.le_of_ble_eq_true rfl), (Nat.le_of_ble_eq_true rfl)⟩) (w_recv hK hP (k := 0) (by decide) lyM0 (q := (RX6, TX6, 26)) rfl) rfl hl.1 rfl (Nat.le_of_ble_eq_true rfl) dX6_pass_36 ⟨(Nat.le_of_ble_eq_true rfl), (Nat.le_of_ble_eq_true rfl)⟩ (fun r u H locs hw hP hS _ _ => ?_)
      obtain ⟨M_8, eM_8⟩ : ∃ z, z = u := ⟨_, rfl⟩
      rw [← eM_8] at hP hw
      obtain ⟨r_9, er_9⟩ : ∃ z, z = r := ⟨_, rfl⟩
      rw [← er_9] at hw
      refine w_eqi er_9.symm ?_
      obtain ⟨hw, wM_8⟩ := hw
      have gM_8 := hw
      have hv := bnd2_name hv hw
      have lr_9 : r_9 = 1 := congrArg Prod.fst hw
      refine w_eqi lr_9 ?_
      refine j0_eq (tgt := 44) hx hb dX6_pass_39 (by decide) (fun c_11 => absurd c_11 (by decide)) (fun _ => ?_)
      refine lv_lconst (v := 0) hx hb dX6_pass_42 (by decide) ?_
      exact W.lret (v := (0 : Int64)) hx hb hr (fun t ht hW => ⟨⟨_, M_8, rfl, ⟨hv.symm.trans eV, wM_8⟩, by rw [ht]; exact hP, va_K.moved hW.alike hK⟩, hS.F ht⟩) hS.2.2 dX6_pass_43
    · have hv := hv.trans (if_neg c_7)
      refine lv_iconst (v := 0) hx hb dX6_pass_35 (by decide) ?_
      refine kVi hx hb hml hown hts hK hP hS hA (As := [.int (0 : Int32)]) (rest := []) (c_X6_refused l dC dI cA ad hI M  (0 : Int32) hw0 ) (mkV hts q_913 q_53 q_910 q_912 q_24 hyX6_refused rfl rfl ⟨(Nat.le_of_ble_eq_true rfl), (Nat.le_of_ble_eq_true rfl)⟩) (w_recv hK hP (k := 0) (by decide) lyM0 (q := (RX6, TX6, 26)) rfl) rfl hl.1 rfl (Nat.le_of_ble_eq_true rfl) dX6_pass_36 ⟨(Nat.le_of_ble_eq_true rfl), (Nat.le_of_ble_eq_true rfl)⟩ (fun r u H locs hw hP hS _ _ => ?_)
      obtain ⟨M_12, eM_12⟩ : ∃ z, z = u := ⟨_, rfl⟩
      rw [← eM_12] at hP hw
      obtain ⟨r_13, er_13⟩ : ∃ z, z = r := ⟨_, rfl⟩
      rw [← er_13] at hw
      refine w_eqi er_13.symm ?_
      obtain ⟨hw, wM_12⟩ := hw
      have gM_12 := hw
      have hv := bnd2_name hv hw
      have lr_13 : r_13 = 0 := congrArg Prod.fst hw
      refine w_eqi lr_13 ?_
      refine j0_eq (tgt := 44) hx hb dX6_pass_39 (by decide) (fun _ => ?_) (fun c_15 => absurd (by decide) c_15)
      refine lv_aload_n hx hb dX6_pass_44 rfl (lv_at hl 0 rfl) ?_
      refine lv_iload_n hx hb dX6_pass_45 rfl (lv_at hl 1 rfl) ?_
      refine kVv hx hb hml hown hts hK hP hS hA (As := [.int p0]) (rest := []) (c_X6_goOn l dC dI cA ad hI M_12  p0 wM_12 ) (mkV hts q_923 q_53 q_920 q_922 q_25 hyX6_goOn rfl rfl ⟨(Nat.le_of_ble_eq_true rfl), (Nat.le_of_ble_eq_true rfl)⟩) (w_recv hK hP (k := 0) (by decide) lyM0 (q := (RX6, TX6, 26)) rfl) rfl hl.1 rfl (Nat.le_of_ble_eq_true rfl) dX6_pass_46 ⟨(Nat.le_of_ble_eq_true rfl), (Nat.le_of_ble_eq_true rfl)⟩ (fun u H locs hw hP hS _ _ => ?_)
      obtain ⟨M_16, eM_16⟩ : ∃ z, z = u := ⟨_, rfl⟩
      rw [← eM_16] at hP hw
      obtain ⟨hw, wM_16⟩ := hw
      have gM_16 := hw
      have hv := bnd_name hv hw
      refine lv_aload_n hx hb dX6_pass_49 rfl (lv_at hl 0 rfl) ?_
      refine kVl hx hb hml hown hts hK hP hS hA (As := []) (rest := []) (c_X6_reading l dC dI cA ad hI M_16   wM_16 ) (mkV hts q_928 q_53 q_925 q_927 q_26 hyX6_reading rfl rfl ⟨(Nat.le_of_ble_eq_true rfl), (Nat.le_of_ble_eq_true rfl)⟩) (w_recv hK hP (k := 0) (by decide) lyM0 (q := (RX6, TX6, 26)) rfl) rfl hl.1 rfl (Nat.le_of_ble_eq_true rfl) dX6_pass_50 ⟨(Nat.le_of_ble_eq_true rfl), (Nat.le_of_ble_eq_true rfl)⟩ (fun r u H locs hw hP hS _ _ => ?_)
      obtain ⟨hw, hu⟩ := hw
      rw [hu] at hP
      have hv := bnd_name hv hw
      obtain ⟨r_17, er_17⟩ : ∃ z, z = r := ⟨_, rfl⟩
      rw [← er_17] at hv hw
      refine w_eql er_17.symm ?_
      have gr_17 := hw
      exact W.lret (v := r_17) hx hb hr (fun t ht hW => ⟨⟨_, M_16, rfl, ⟨hv.symm.trans eV, wM_16⟩, by rw [ht]; exact hP, va_K.moved hW.alike hK⟩, hS.F ht⟩) hS.2.2 dX6_pass_53
def f_X6_setDrift (M : Mem) (p0 : Int32) : Int32 × Mem := bnd ((f_X6_in ((p0).toInt64) ((-300) : Int64) (300 : Int64))) fun x_1 => if x_1 = (0 : Int32) then bnd2 (f_X6_refused M  (1 : Int32)) fun r_4 M_3 => ((0 : Int32), M_3) else bnd2 (f_X6_refused M  (0 : Int32)) fun r_8 M_7 => bnd (gI M_7 (1)) fun x_11 => bnd (sI M_7 (1) p0) fun M_12 => (x_11, M_12)
theorem hyX6_setDrift : yX6_setDrift.cls ≠ "java/lang/invoke/MethodHandle" ∧ yX6_setDrift.cls ≠ "java/lang/invoke/VarHandle" ∧ (parseMethodDescriptor yX6_setDrift.desc).map (fun d => d.parameters.length) = some 1 := by decide +kernel
set_option maxHeartbeats 4000000 in
set_option maxRecDepth 100000 in
theorem c_X6_setDrift (l : Launch) (dC : Nat → ClassId) (dI : Nat → Nat → Nat) (cA : Nat → ClassId) (ad : Nat → Nat) (hI : Inj 12 ad) (M : Mem) (p0 : Int32) (hw0 : WFm M)  : Met l yX6_setDrift (.code yX6_setDrift cX6_setDrift 3 (some .int) :: AG) ({ frames := 1, cells := 0, slots := 0, locals := 25 } : Room) (va_Pc [.ref (ad (0)), .int p0] (PM dC dI cA ad M)) (va_Qi (fun r u => (r, u) = f_X6_setDrift M p0 ∧ WFm u) (PM dC dI cA ad) (adS 12 ad)) 0 0 (adS 12 ad) := by
  refine cMet (by decide) (Nat.le_of_ble_eq_true rfl) ?_
  intro p e s m below meth c ls hx hb hr hml hlocks hown hts hK hP hS hl
  have hA : ∀ q, adS 12 ad q → adS 12 ad q := fun _ h => h
  have hl : lv_has ls 3 [(0, .ref (ad (0))), (1, .int p0)] := hl
  obtain ⟨V, eV⟩ : ∃ z, z = f_X6_setDrift M p0 := ⟨_, rfl⟩
  have hv := eV
  unfold f_X6_setDrift at hv
  refine lv_aload_n hx hb dX6_setDrift_0 rfl (lv_at hl 0 rfl) ?_
  refine lv_iload_n hx hb dX6_setDrift_1 rfl (lv_at hl 1 rfl) ?_
  refine lv_i2l (v := (p0).toInt64) hx hb dX6_setDrift_2 rfl ?_
  refine lv_ldc2 (v := (-300)) hx hb hown (hts _ q_936) dX6_setDrift_3 ?_
  refine lv_ldc2 (v := 300) hx hb hown (hts _ q_937) dX6_setDrift_6 ?_
  refine kSi hx hb hml hown hts (As := [.long ((p0).toInt64), .long ((-300) : Int64), .long (300 : Int64)]) (rest := [.ref (ad (0))]) (c_X6_in l ((p0).toInt64) ((-300) : Int64) (300 : Int64) ) (mkS hts q_909 q_53 q_907 q_908 hyX6_in rfl rfl ⟨(Nat.le_of_ble_eq_true rfl), (Nat.le_of_ble_eq_true rfl)⟩) rfl hl.1 rfl (Nat.le_of_ble_eq_true rfl) dX6_setDrift_9 ⟨(Nat.le_of_ble_eq_true rfl), (Nat.le_of_ble_eq_true rfl)⟩ ?_
  refine lv_topi (fun x_1 ex_1 => ?_)
  have hv := bnd_name hv ex_1
  have bx_1 : x_1 = 0 ∨ x_1 = 1 := by rw [ex_1]; exact f_X6_in_b ((p0).toInt64) ((-300) : Int64) (300 : Int64)
  refine j0_eq (tgt := 19) hx hb dX6_setDrift_12 (by decide) (fun c_2 => ?_) (fun c_2 => ?_)
  · have hv := hv.trans (if_pos c_2)
    refine lv_iconst (v := 1) hx hb dX6_setDrift_19 (by decide) ?_
    refine kVi hx hb hml hown hts hK hP hS hA (As := [.int (1 : Int32)]) (rest := []) (c_X6_refused l dC dI cA ad hI M  (1 : Int32) hw0 ) (mkV hts q_913 q_53 q_910 q_912 q_24 hyX6_refused rfl rfl ⟨(Nat.le_of_ble_eq_true rfl), (Nat.le_of_ble_eq_true rfl)⟩) (w_recv hK hP (k := 0) (by decide) lyM0 (q := (RX6, TX6, 26)) rfl) rfl hl.1 rfl (Nat.le_of_ble_eq_true rfl) dX6_setDrift_20 ⟨(Nat.le_of_ble_eq_true rfl), (Nat.le_of_ble_eq_true rfl)⟩ (fun r u H locs hw hP hS _ _ => ?_)
    obtain ⟨M_3, eM_3⟩ : ∃ z, z = u := ⟨_, rfl⟩
    rw [← eM_3] at hP hw
    obtain ⟨r_4, er_4⟩ : ∃ z, z = r := ⟨_, rfl⟩
    rw [← er_4] at hw
    refine w_eqi er_4.symm ?_
    obtain ⟨hw, wM_3⟩ := hw
    have gM_3 := hw
    have hv := bnd2_name hv hw
    have lr_4 : r_4 = 1 := congrArg Prod.fst hw
    refine w_eqi lr_4 ?_
    refine j0_eq (tgt := 28) hx hb dX6_setDrift_23 (by decide) (fun c_6 => absurd c_6 (by decide)) (fun _ => ?_)
    refine lv_iconst (v := 0) hx hb dX6_setDrift_26 (by decide) ?_
    exact W.iret (v := (0 : Int32)) hx hb hr (fun t ht hW => ⟨⟨_, M_3, rfl, ⟨hv.symm.trans eV, wM_3⟩, by rw [ht]; exact hP, va_K.moved hW.alike hK⟩, hS.F ht⟩) hS.2.2 dX6_setDrift_27
  · have hv := hv.trans (if_neg c_2)
    refine lv_iconst (v := 0) hx hb dX6_setDrift_15 (by decide) ?_
    refine lv_goto (tgt := 20) hx hb dX6_setDrift_16 (by decide) ?_
    refine kVi hx hb hml hown hts hK hP hS hA (As := [.int (0 : Int32)]) (rest := []) (c_X6_refused l dC dI cA ad hI M  (0 : Int32) hw0 ) (mkV hts q_913 q_53 q_910 q_912 q_24 hyX6_refused rfl rfl ⟨(Nat.le_of_ble_eq_true rfl), (Nat.le_of_ble_eq_true rfl)⟩) (w_recv hK hP (k := 0) (by decide) lyM0 (q := (RX6, TX6, 26)) rfl) rfl hl.1 rfl (Nat.le_of_ble_eq_true rfl) dX6_setDrift_20 ⟨(Nat.le_of_ble_eq_true rfl), (Nat.le_of_ble_eq_true rfl)⟩ (fun r u H locs hw hP hS _ _ => ?_)
    obtain ⟨M_7, eM_7⟩ : ∃ z, z = u := ⟨_, rfl⟩
    rw [← eM_7] at hP hw
    obtain ⟨r_8, er_8⟩ : ∃ z, z = r := ⟨_, rfl⟩
    rw [← er_8] at hw
    refine w_eqi er_8.symm ?_
    obtain ⟨hw, wM_7⟩ := hw
    have gM_7 := hw
    have hv := bnd2_name hv hw
    have lr_8 : r_8 = 0 := congrArg Prod.fst hw
    refine w_eqi lr_8 ?_
    refine j0_eq (tgt := 28) hx hb dX6_setDrift_23 (by decide) (fun _ => ?_) (fun c_10 => absurd (by decide) c_10)
    refine lv_aload_n hx hb dX6_setDrift_28 rfl (lv_at hl 0 rfl) ?_
    refine fg_X6_80 hx hb hts hK hP hown dX6_setDrift_29 ?_
    refine lv_topi (fun x_11 ex_11 => ?_)
    have hv := bnd_name hv ex_11
    refine lv_istore_n (lv' := [(2, .int x_11), (0, .ref (ad (0))), (1, .int p0)]) hx hb dX6_setDrift_32 rfl hl (by decide) rfl (fun ls hl => ?_)
    refine lv_aload_n hx hb dX6_setDrift_33 rfl (lv_at hl 1 rfl) ?_
    refine lv_iload_n hx hb dX6_setDrift_34 rfl (lv_at hl 2 rfl) ?_
    refine fp_X6_80 hx hb hts hK hP hI hS hA hown dX6_setDrift_35 (fun H locs hP hS => ?_)
    obtain ⟨M_12, eM_12⟩ : ∃ z : Mem, z = sI M_7 (1) p0 := ⟨_, rfl⟩
    rw [← eM_12] at hP
    have hv := bnd_name hv eM_12
    have wM_12 : WFm M_12 := by rw [eM_12]; exact WFm_sI wM_7 (by decide)
    refine lv_iload_n hx hb dX6_setDrift_38 rfl (lv_at hl 0 rfl) ?_
    exact W.iret (v := x_11) hx hb hr (fun t ht hW => ⟨⟨_, M_12, rfl, ⟨hv.symm.trans eV, wM_12⟩, by rw [ht]; exact hP, va_K.moved hW.alike hK⟩, hS.F ht⟩) hS.2.2 dX6_setDrift_39
def f_X6_trueTime (M : Mem)  : Int64 × Mem := bnd2 (f_X6_fineLong M  (gL M (0))) fun r_2 M_1 => (r_2, M_1)
theorem hyX6_trueTime : yX6_trueTime.cls ≠ "java/lang/invoke/MethodHandle" ∧ yX6_trueTime.cls ≠ "java/lang/invoke/VarHandle" ∧ (parseMethodDescriptor yX6_trueTime.desc).map (fun d => d.parameters.length) = some 0 := by decide +kernel
set_option maxHeartbeats 4000000 in
set_option maxRecDepth 100000 in
theorem c_X6_trueTime (l : Launch) (dC : Nat → ClassId) (dI : Nat → Nat → Nat) (cA : Nat → ClassId) (ad : Nat → Nat) (hI : Inj 12 ad) (M : Mem) (hw0 : WFm M)  : Met l yX6_trueTime (.code yX6_trueTime cX6_trueTime 1 (some .long) :: AG) ({ frames := 1, cells := 0, slots := 0, locals := 22 } : Room) (va_Pc [.ref (ad (0))] (PM dC dI cA ad M)) (va_Ql (fun r u => (r, u) = f_X6_trueTime M  ∧ WFm u) (PM dC dI cA ad) (adS 12 ad)) 0 0 (adS 12 ad) := by
  refine cMet (by decide) (Nat.le_of_ble_eq_true rfl) ?_
  intro p e s m below meth c ls hx hb hr hml hlocks hown hts hK hP hS hl
  have hA : ∀ q, adS 12 ad q → adS 12 ad q := fun _ h => h
  have hl : lv_has ls 1 [(0, .ref (ad (0)))] := hl
  obtain ⟨V, eV⟩ : ∃ z, z = f_X6_trueTime M  := ⟨_, rfl⟩
  have hv := eV
  unfold f_X6_trueTime at hv
  refine lv_aload_n hx hb dX6_trueTime_0 rfl (lv_at hl 0 rfl) ?_
  refine lv_aload_n hx hb dX6_trueTime_1 rfl (lv_at hl 0 rfl) ?_
  refine fg_X6_74 hx hb hts hK hP hown dX6_trueTime_2 ?_
  refine kVl hx hb hml hown hts hK hP hS hA (As := [.long (gL M (0))]) (rest := []) (c_X6_fineLong l dC dI cA ad hI M  (gL M (0)) hw0 ) (mkV hts q_945 q_53 q_942 q_944 q_27 hyX6_fineLong rfl rfl ⟨(Nat.le_of_ble_eq_true rfl), (Nat.le_of_ble_eq_true rfl)⟩) (w_recv hK hP (k := 0) (by decide) lyM0 (q := (RX6, TX6, 26)) rfl) rfl hl.1 rfl (Nat.le_of_ble_eq_true rfl) dX6_trueTime_5 ⟨(Nat.le_of_ble_eq_true rfl), (Nat.le_of_ble_eq_true rfl)⟩ (fun r u H locs hw hP hS _ _ => ?_)
  obtain ⟨M_1, eM_1⟩ : ∃ z, z = u := ⟨_, rfl⟩
  rw [← eM_1] at hP hw
  obtain ⟨r_2, er_2⟩ : ∃ z, z = r := ⟨_, rfl⟩
  rw [← er_2] at hw
  refine w_eql er_2.symm ?_
  obtain ⟨hw, wM_1⟩ := hw
  have gM_1 := hw
  have hv := bnd2_name hv hw
  exact W.lret (v := r_2) hx hb hr (fun t ht hW => ⟨⟨_, M_1, rfl, ⟨hv.symm.trans eV, wM_1⟩, by rw [ht]; exact hP, va_K.moved hW.alike hK⟩, hS.F ht⟩) hS.2.2 dX6_trueTime_8
def f_X6_clock (M : Mem)  : Int64 × Mem := bnd (f_X6_reading M  ) fun r_1 => bnd2 (f_X6_fineLong M  r_1) fun r_3 M_2 => (r_3, M_2)
theorem hyX6_clock : yX6_clock.cls ≠ "java/lang/invoke/MethodHandle" ∧ yX6_clock.cls ≠ "java/lang/invoke/VarHandle" ∧ (parseMethodDescriptor yX6_clock.desc).map (fun d => d.parameters.length) = some 0 := by decide +kernel
set_option maxHeartbeats 4000000 in
set_option maxRecDepth 100000 in
theorem c_X6_clock (l : Launch) (dC : Nat → ClassId) (dI : Nat → Nat → Nat) (cA : Nat → ClassId) (ad : Nat → Nat) (hI : Inj 12 ad) (M : Mem) (hw0 : WFm M)  : Met l yX6_clock (.code yX6_clock cX6_clock 1 (some .long) :: AG) ({ frames := 2, cells := 0, slots := 0, locals := 45 } : Room) (va_Pc [.ref (ad (0))] (PM dC dI cA ad M)) (va_Ql (fun r u => (r, u) = f_X6_clock M  ∧ WFm u) (PM dC dI cA ad) (adS 12 ad)) 0 0 (adS 12 ad) := by
  refine cMet (by decide) (Nat.le_of_ble_eq_true rfl) ?_
  intro p e s m below meth c ls hx hb hr hml hlocks hown hts hK hP hS hl
  have hA : ∀ q, adS 12 ad q → adS 12 ad q := fun _ h => h
  have hl : lv_has ls 1 [(0, .ref (ad (0)))] := hl
  obtain ⟨V, eV⟩ : ∃ z, z = f_X6_clock M  := ⟨_, rfl⟩
  have hv := eV
  unfold f_X6_clock at hv
  refine lv_aload_n hx hb dX6_clock_0 rfl (lv_at hl 0 rfl) ?_
  refine lv_aload_n hx hb dX6_clock_1 rfl (lv_at hl 0 rfl) ?_
  refine kVl hx hb hml hown hts hK hP hS hA (As := []) (rest := [.ref (ad (0))]) (c_X6_reading l dC dI cA ad hI M   hw0 ) (mkV hts q_928 q_53 q_925 q_927 q_26 hyX6_reading rfl rfl ⟨(Nat.le_of_ble_eq_true rfl), (Nat.le_of_ble_eq_true rfl)⟩) (w_recv hK hP (k := 0) (by decide) lyM0 (q := (RX6, TX6, 26)) rfl) rfl hl.1 rfl (Nat.le_of_ble_eq_true rfl) dX6_clock_2 ⟨(Nat.le_of_ble_eq_true rfl), (Nat.le_of_ble_eq_true rfl)⟩ (fun r u H locs hw hP hS _ _ => ?_)
  obtain ⟨hw, hu⟩ := hw
  rw [hu] at hP
  have hv := bnd_name hv hw
  obtain ⟨r_1, er_1⟩ : ∃ z, z = r := ⟨_, rfl⟩
  rw [← er_1] at hv hw
  refine w_eql er_1.symm ?_
  have gr_1 := hw
  refine kVl hx hb hml hown hts hK hP hS hA (As := [.long r_1]) (rest := []) (c_X6_fineLong l dC dI cA ad hI M  r_1 hw0 ) (mkV hts q_945 q_53 q_942 q_944 q_27 hyX6_fineLong rfl rfl ⟨(Nat.le_of_ble_eq_true rfl), (Nat.le_of_ble_eq_true rfl)⟩) (w_recv hK hP (k := 0) (by decide) lyM0 (q := (RX6, TX6, 26)) rfl) rfl hl.1 rfl (Nat.le_of_ble_eq_true rfl) dX6_clock_5 ⟨(Nat.le_of_ble_eq_true rfl), (Nat.le_of_ble_eq_true rfl)⟩ (fun r u H locs hw hP hS _ _ => ?_)
  obtain ⟨M_2, eM_2⟩ : ∃ z, z = u := ⟨_, rfl⟩
  rw [← eM_2] at hP hw
  obtain ⟨r_3, er_3⟩ : ∃ z, z = r := ⟨_, rfl⟩
  rw [← er_3] at hw
  refine w_eql er_3.symm ?_
  obtain ⟨hw, wM_2⟩ := hw
  have gM_2 := hw
  have hv := bnd2_name hv hw
  exact W.lret (v := r_3) hx hb hr (fun t ht hW => ⟨⟨_, M_2, rfl, ⟨hv.symm.trans eV, wM_2⟩, by rw [ht]; exact hP, va_K.moved hW.alike hK⟩, hS.F ht⟩) hS.2.2 dX6_clock_8
def f_X6_error (M : Mem)  : Int64 × Mem := bnd (f_X6_reading M  ) fun r_1 => bnd2 (f_X6_fineLong M  (r_1 - gL M (0))) fun r_3 M_2 => (r_3, M_2)
theorem hyX6_error : yX6_error.cls ≠ "java/lang/invoke/MethodHandle" ∧ yX6_error.cls ≠ "java/lang/invoke/VarHandle" ∧ (parseMethodDescriptor yX6_error.desc).map (fun d => d.parameters.length) = some 0 := by decide +kernel
set_option maxHeartbeats 4000000 in
set_option maxRecDepth 100000 in
theorem c_X6_error (l : Launch) (dC : Nat → ClassId) (dI : Nat → Nat → Nat) (cA : Nat → ClassId) (ad : Nat → Nat) (hI : Inj 12 ad) (M : Mem) (hw0 : WFm M)  : Met l yX6_error (.code yX6_error cX6_error 1 (some .long) :: AG) ({ frames := 2, cells := 0, slots := 0, locals := 45 } : Room) (va_Pc [.ref (ad (0))] (PM dC dI cA ad M)) (va_Ql (fun r u => (r, u) = f_X6_error M  ∧ WFm u) (PM dC dI cA ad) (adS 12 ad)) 0 0 (adS 12 ad) := by
  refine cMet (by decide) (Nat.le_of_ble_eq_true rfl) ?_
  intro p e s m below meth c ls hx hb hr hml hlocks hown hts hK hP hS hl
  have hA : ∀ q, adS 12 ad q → adS 12 ad q := fun _ h => h
  have hl : lv_has ls 1 [(0, .ref (ad (0)))] := hl
  obtain ⟨V, eV⟩ : ∃ z, z = f_X6_error M  := ⟨_, rfl⟩
  have hv := eV
  unfold f_X6_error at hv
  refine lv_aload_n hx hb dX6_error_0 rfl (lv_at hl 0 rfl) ?_
  refine lv_aload_n hx hb dX6_error_1 rfl (lv_at hl 0 rfl) ?_
  refine kVl hx hb hml hown hts hK hP hS hA (As := []) (rest := [.ref (ad (0))]) (c_X6_reading l dC dI cA ad hI M   hw0 ) (mkV hts q_928 q_53 q_925 q_927 q_26 hyX6_reading rfl rfl ⟨(Nat.le_of_ble_eq_true rfl), (Nat.le_of_ble_eq_true rfl)⟩) (w_recv hK hP (k := 0) (by decide) lyM0 (q := (RX6, TX6, 26)) rfl) rfl hl.1 rfl (Nat.le_of_ble_eq_true rfl) dX6_error_2 ⟨(Nat.le_of_ble_eq_true rfl), (Nat.le_of_ble_eq_true rfl)⟩ (fun r u H locs hw hP hS _ _ => ?_)
  obtain ⟨hw, hu⟩ := hw
  rw [hu] at hP
  have hv := bnd_name hv hw
  obtain ⟨r_1, er_1⟩ : ∃ z, z = r := ⟨_, rfl⟩
  rw [← er_1] at hv hw
  refine w_eql er_1.symm ?_
  have gr_1 := hw
  refine lv_aload_n hx hb dX6_error_5 rfl (lv_at hl 0 rfl) ?_
  refine fg_X6_74 hx hb hts hK hP hown dX6_error_6 ?_
  refine lv_lsub hx hb dX6_error_9 ?_
  refine kVl hx hb hml hown hts hK hP hS hA (As := [.long (r_1 - gL M (0))]) (rest := []) (c_X6_fineLong l dC dI cA ad hI M  (r_1 - gL M (0)) hw0 ) (mkV hts q_945 q_53 q_942 q_944 q_27 hyX6_fineLong rfl rfl ⟨(Nat.le_of_ble_eq_true rfl), (Nat.le_of_ble_eq_true rfl)⟩) (w_recv hK hP (k := 0) (by decide) lyM0 (q := (RX6, TX6, 26)) rfl) rfl hl.1 rfl (Nat.le_of_ble_eq_true rfl) dX6_error_10 ⟨(Nat.le_of_ble_eq_true rfl), (Nat.le_of_ble_eq_true rfl)⟩ (fun r u H locs hw hP hS _ _ => ?_)
  obtain ⟨M_2, eM_2⟩ : ∃ z, z = u := ⟨_, rfl⟩
  rw [← eM_2] at hP hw
  obtain ⟨r_3, er_3⟩ : ∃ z, z = r := ⟨_, rfl⟩
  rw [← er_3] at hw
  refine w_eql er_3.symm ?_
  obtain ⟨hw, wM_2⟩ := hw
  have gM_2 := hw
  have hv := bnd2_name hv hw
  exact W.lret (v := r_3) hx hb hr (fun t ht hW => ⟨⟨_, M_2, rfl, ⟨hv.symm.trans eV, wM_2⟩, by rw [ht]; exact hP, va_K.moved hW.alike hK⟩, hS.F ht⟩) hS.2.2 dX6_error_13
def f_X6_pendingSlew (M : Mem)  : Int64 × Mem := bnd2 (f_X6_fineLong M  (gL M (2) / (1000000 : Int64))) fun r_2 M_1 => (r_2, M_1)
theorem hyX6_pendingSlew : yX6_pendingSlew.cls ≠ "java/lang/invoke/MethodHandle" ∧ yX6_pendingSlew.cls ≠ "java/lang/invoke/VarHandle" ∧ (parseMethodDescriptor yX6_pendingSlew.desc).map (fun d => d.parameters.length) = some 0 := by decide +kernel
set_option maxHeartbeats 4000000 in
set_option maxRecDepth 100000 in
theorem c_X6_pendingSlew (l : Launch) (dC : Nat → ClassId) (dI : Nat → Nat → Nat) (cA : Nat → ClassId) (ad : Nat → Nat) (hI : Inj 12 ad) (M : Mem) (hw0 : WFm M)  : Met l yX6_pendingSlew (.code yX6_pendingSlew cX6_pendingSlew 1 (some .long) :: AG) ({ frames := 1, cells := 0, slots := 0, locals := 22 } : Room) (va_Pc [.ref (ad (0))] (PM dC dI cA ad M)) (va_Ql (fun r u => (r, u) = f_X6_pendingSlew M  ∧ WFm u) (PM dC dI cA ad) (adS 12 ad)) 0 0 (adS 12 ad) := by
  refine cMet (by decide) (Nat.le_of_ble_eq_true rfl) ?_
  intro p e s m below meth c ls hx hb hr hml hlocks hown hts hK hP hS hl
  have hA : ∀ q, adS 12 ad q → adS 12 ad q := fun _ h => h
  have hl : lv_has ls 1 [(0, .ref (ad (0)))] := hl
  obtain ⟨V, eV⟩ : ∃ z, z = f_X6_pendingSlew M  := ⟨_, rfl⟩
  have hv := eV
  unfold f_X6_pendingSlew at hv
  refine lv_aload_n hx hb dX6_pendingSlew_0 rfl (lv_at hl 0 rfl) ?_
  refine lv_aload_n hx hb dX6_pendingSlew_1 rfl (lv_at hl 0 rfl) ?_
  refine fg_X6_77 hx hb hts hK hP hown dX6_pendingSlew_2 ?_
  refine lv_ldc2 (v := 1000000) hx hb hown (hts _ q_914) dX6_pendingSlew_5 ?_
  refine lv_ldiv hx hb dX6_pendingSlew_8 (by decide) ?_
  refine kVl hx hb hml hown hts hK hP hS hA (As := [.long (gL M (2) / (1000000 : Int64))]) (rest := []) (c_X6_fineLong l dC dI cA ad hI M  (gL M (2) / (1000000 : Int64)) hw0 ) (mkV hts q_945 q_53 q_942 q_944 q_27 hyX6_fineLong rfl rfl ⟨(Nat.le_of_ble_eq_true rfl), (Nat.le_of_ble_eq_true rfl)⟩) (w_recv hK hP (k := 0) (by decide) lyM0 (q := (RX6, TX6, 26)) rfl) rfl hl.1 rfl (Nat.le_of_ble_eq_true rfl) dX6_pendingSlew_9 ⟨(Nat.le_of_ble_eq_true rfl), (Nat.le_of_ble_eq_true rfl)⟩ (fun r u H locs hw hP hS _ _ => ?_)
  obtain ⟨M_1, eM_1⟩ : ∃ z, z = u := ⟨_, rfl⟩
  rw [← eM_1] at hP hw
  obtain ⟨r_2, er_2⟩ : ∃ z, z = r := ⟨_, rfl⟩
  rw [← er_2] at hw
  refine w_eql er_2.symm ?_
  obtain ⟨hw, wM_1⟩ := hw
  have gM_1 := hw
  have hv := bnd2_name hv hw
  exact W.lret (v := r_2) hx hb hr (fun t ht hW => ⟨⟨_, M_1, rfl, ⟨hv.symm.trans eV, wM_1⟩, by rw [ht]; exact hP, va_K.moved hW.alike hK⟩, hS.F ht⟩) hS.2.2 dX6_pendingSlew_12
def f_X6_correction (M : Mem)  : Int32 × Mem := bnd2 (f_X6_fine M  (gI M (2))) fun r_2 M_1 => (r_2, M_1)
theorem hyX6_correction : yX6_correction.cls ≠ "java/lang/invoke/MethodHandle" ∧ yX6_correction.cls ≠ "java/lang/invoke/VarHandle" ∧ (parseMethodDescriptor yX6_correction.desc).map (fun d => d.parameters.length) = some 0 := by decide +kernel
set_option maxHeartbeats 4000000 in
set_option maxRecDepth 100000 in
theorem c_X6_correction (l : Launch) (dC : Nat → ClassId) (dI : Nat → Nat → Nat) (cA : Nat → ClassId) (ad : Nat → Nat) (hI : Inj 12 ad) (M : Mem) (hw0 : WFm M)  : Met l yX6_correction (.code yX6_correction cX6_correction 1 (some .int) :: AG) ({ frames := 1, cells := 0, slots := 0, locals := 21 } : Room) (va_Pc [.ref (ad (0))] (PM dC dI cA ad M)) (va_Qi (fun r u => (r, u) = f_X6_correction M  ∧ WFm u) (PM dC dI cA ad) (adS 12 ad)) 0 0 (adS 12 ad) := by
  refine cMet (by decide) (Nat.le_of_ble_eq_true rfl) ?_
  intro p e s m below meth c ls hx hb hr hml hlocks hown hts hK hP hS hl
  have hA : ∀ q, adS 12 ad q → adS 12 ad q := fun _ h => h
  have hl : lv_has ls 1 [(0, .ref (ad (0)))] := hl
  obtain ⟨V, eV⟩ : ∃ z, z = f_X6_correction M  := ⟨_, rfl⟩
  have hv := eV
  unfold f_X6_correction at hv
  refine lv_aload_n hx hb dX6_correction_0 rfl (lv_at hl 0 rfl) ?_
  refine lv_aload_n hx hb dX6_correction_1 rfl (lv_at hl 0 rfl) ?_
  refine fg_X6_83 hx hb hts hK hP hown dX6_correction_2 ?_
  refine kVi hx hb hml hown hts hK hP hS hA (As := [.int (gI M (2))]) (rest := []) (c_X6_fine l dC dI cA ad hI M  (gI M (2)) hw0 ) (mkV hts q_965 q_53 q_962 q_964 q_28 hyX6_fine rfl rfl ⟨(Nat.le_of_ble_eq_true rfl), (Nat.le_of_ble_eq_true rfl)⟩) (w_recv hK hP (k := 0) (by decide) lyM0 (q := (RX6, TX6, 26)) rfl) rfl hl.1 rfl (Nat.le_of_ble_eq_true rfl) dX6_correction_5 ⟨(Nat.le_of_ble_eq_true rfl), (Nat.le_of_ble_eq_true rfl)⟩ (fun r u H locs hw hP hS _ _ => ?_)
  obtain ⟨M_1, eM_1⟩ : ∃ z, z = u := ⟨_, rfl⟩
  rw [← eM_1] at hP hw
  obtain ⟨r_2, er_2⟩ : ∃ z, z = r := ⟨_, rfl⟩
  rw [← er_2] at hw
  refine w_eqi er_2.symm ?_
  obtain ⟨hw, wM_1⟩ := hw
  have gM_1 := hw
  have hv := bnd2_name hv hw
  exact W.iret (v := r_2) hx hb hr (fun t ht hW => ⟨⟨_, M_1, rfl, ⟨hv.symm.trans eV, wM_1⟩, by rw [ht]; exact hP, va_K.moved hW.alike hK⟩, hS.F ht⟩) hS.2.2 dX6_correction_8
def f_X6_announceLeap (M : Mem) (p0 : Int32) (p1 : Int32) : Int64 × Mem := bnd ((f_X6_in ((p0).toInt64) (0 : Int64) (20 : Int64))) fun x_1 => if x_1 = (0 : Int32) then bnd2 (f_X6_refused M  (1 : Int32)) fun r_4 M_3 => ((0 : Int64), M_3) else bnd ((p0).toNatClampNeg) fun j0 => if gB M 0 (j0) = (0 : Int32) then bnd (f_X6_reading M  ) fun r_8 => bnd ((f_X6_smearFrom (nI j0))) fun x_9 => if r_8 < x_9 then bnd2 (f_X6_refused M  (0 : Int32)) fun r_12 M_11 => if p1 = (0 : Int32) then bnd (sB M_11 0 (upd (gB M_11 0) (j0) (1 : Int32))) fun M_16 => bnd ((f_X6_smearFrom (nI j0))) fun x_17 => (x_17, M_16) else bnd (sB M_11 0 (upd (gB M_11 0) (j0) ((-1) : Int32))) fun M_18 => bnd ((f_X6_smearFrom (nI j0))) fun x_19 => (x_19, M_18) else bnd2 (f_X6_refused M  (2 : Int32)) fun r_21 M_20 => ((0 : Int64), M_20) else bnd2 (f_X6_refused M  (2 : Int32)) fun r_25 M_24 => ((0 : Int64), M_24)
theorem hyX6_announceLeap : yX6_announceLeap.cls ≠ "java/lang/invoke/MethodHandle" ∧ yX6_announceLeap.cls ≠ "java/lang/invoke/VarHandle" ∧ (parseMethodDescriptor yX6_announceLeap.desc).map (fun d => d.parameters.length) = some 2 := by decide +kernel
set_option maxHeartbeats 4000000 in
set_option maxRecDepth 100000 in
theorem c_X6_announceLeap (l : Launch) (dC : Nat → ClassId) (dI : Nat → Nat → Nat) (cA : Nat → ClassId) (ad : Nat → Nat) (hI : Inj 12 ad) (M : Mem) (p0 : Int32) (p1 : Int32) (hw0 : WFm M)  : Met l yX6_announceLeap (.code yX6_announceLeap cX6_announceLeap 4 (some .long) :: AG) ({ frames := 2, cells := 0, slots := 0, locals := 45 } : Room) (va_Pc [.ref (ad (0)), .int p0, .int p1] (PM dC dI cA ad M)) (va_Ql (fun r u => (r, u) = f_X6_announceLeap M p0 p1 ∧ WFm u) (PM dC dI cA ad) (adS 12 ad)) 0 0 (adS 12 ad) := by
  refine cMet (by decide) (Nat.le_of_ble_eq_true rfl) ?_
  intro p e s m below meth c ls hx hb hr hml hlocks hown hts hK hP hS hl
  have hA : ∀ q, adS 12 ad q → adS 12 ad q := fun _ h => h
  have hl : lv_has ls 4 [(0, .ref (ad (0))), (1, .int p0), (2, .int p1)] := hl
  obtain ⟨V, eV⟩ : ∃ z, z = f_X6_announceLeap M p0 p1 := ⟨_, rfl⟩
  have hv := eV
  unfold f_X6_announceLeap at hv
  refine lv_iload_n hx hb dX6_announceLeap_0 rfl (lv_at hl 1 rfl) ?_
  refine lv_i2l (v := (p0).toInt64) hx hb dX6_announceLeap_1 rfl ?_
  refine lv_lconst (v := 0) hx hb dX6_announceLeap_2 (by decide) ?_
  refine lv_ldc2 (v := 20) hx hb hown (hts _ q_970) dX6_announceLeap_3 ?_
  refine kSi hx hb hml hown hts (As := [.long ((p0).toInt64), .long (0 : Int64), .long (20 : Int64)]) (rest := []) (c_X6_in l ((p0).toInt64) (0 : Int64) (20 : Int64) ) (mkS hts q_909 q_53 q_907 q_908 hyX6_in rfl rfl ⟨(Nat.le_of_ble_eq_true rfl), (Nat.le_of_ble_eq_true rfl)⟩) rfl hl.1 rfl (Nat.le_of_ble_eq_true rfl) dX6_announceLeap_6 ⟨(Nat.le_of_ble_eq_true rfl), (Nat.le_of_ble_eq_true rfl)⟩ ?_
  refine lv_topi (fun x_1 ex_1 => ?_)
  have hv := bnd_name hv ex_1
  have bx_1 : x_1 = 0 ∨ x_1 = 1 := by rw [ex_1]; exact f_X6_in_b ((p0).toInt64) (0 : Int64) (20 : Int64)
  refine lv_istore_n (lv' := [(3, .int x_1), (0, .ref (ad (0))), (1, .int p0), (2, .int p1)]) hx hb dX6_announceLeap_9 rfl hl (by decide) rfl (fun ls hl => ?_)
  refine lv_aload_n hx hb dX6_announceLeap_10 rfl (lv_at hl 1 rfl) ?_
  refine lv_iload_n hx hb dX6_announceLeap_11 rfl (lv_at hl 0 rfl) ?_
  refine j0_ne (tgt := 19) hx hb dX6_announceLeap_12 (by decide) (fun c_2 => ?_) (fun c_2 => ?_)
  · have hv := hv.trans (if_pos c_2)
    refine lv_iconst (v := 1) hx hb dX6_announceLeap_15 (by decide) ?_
    refine lv_goto (tgt := 45) hx hb dX6_announceLeap_16 (by decide) ?_
    refine kVi hx hb hml hown hts hK hP hS hA (As := [.int (1 : Int32)]) (rest := []) (c_X6_refused l dC dI cA ad hI M  (1 : Int32) hw0 ) (mkV hts q_913 q_53 q_910 q_912 q_24 hyX6_refused rfl rfl ⟨(Nat.le_of_ble_eq_true rfl), (Nat.le_of_ble_eq_true rfl)⟩) (w_recv hK hP (k := 0) (by decide) lyM0 (q := (RX6, TX6, 26)) rfl) rfl hl.1 rfl (Nat.le_of_ble_eq_true rfl) dX6_announceLeap_45 ⟨(Nat.le_of_ble_eq_true rfl), (Nat.le_of_ble_eq_true rfl)⟩ (fun r u H locs hw hP hS _ _ => ?_)
    obtain ⟨M_3, eM_3⟩ : ∃ z, z = u := ⟨_, rfl⟩
    rw [← eM_3] at hP hw
    obtain ⟨r_4, er_4⟩ : ∃ z, z = r := ⟨_, rfl⟩
    rw [← er_4] at hw
    refine w_eqi er_4.symm ?_
    obtain ⟨hw, wM_3⟩ := hw
    have gM_3 := hw
    have hv := bnd2_name hv hw
    have lr_4 : r_4 = 1 := congrArg Prod.fst hw
    refine w_eqi lr_4 ?_
    refine j0_eq (tgt := 53) hx hb dX6_announceLeap_48 (by decide) (fun c_6 => absurd c_6 (by decide)) (fun _ => ?_)
    refine lv_lconst (v := 0) hx hb dX6_announceLeap_51 (by decide) ?_
    exact W.lret (v := (0 : Int64)) hx hb hr (fun t ht hW => ⟨⟨_, M_3, rfl, ⟨hv.symm.trans eV, wM_3⟩, by rw [ht]; exact hP, va_K.moved hW.alike hK⟩, hS.F ht⟩) hS.2.2 dX6_announceLeap_52
  · have hv := hv.trans (if_neg c_2)
    obtain ⟨j0, hj0, e9⟩ := in_rng (x := p0) (n := 20) (by decide) (by have h9 := c_2; rw [ex_1] at h9; exact h9)
    subst e9
    have hv := bnd_name hv (show j0 = (nI j0).toNatClampNeg from (nI_clamp (by omega)).symm)
    refine lv_aload_n hx hb dX6_announceLeap_19 rfl (lv_at hl 1 rfl) ?_
    refine fg_X6_13 hx hb hts hK hP hown dX6_announceLeap_20 ?_
    refine lv_iload_n hx hb dX6_announceLeap_23 rfl (lv_at hl 2 rfl) ?_
    refine w_ialdN hx hb hK hP (k := 1) (by decide) lyM1 (i := j0) (by omega) (by decide) dX6_announceLeap_24 ?_
    refine j0_ne (tgt := 40) hx hb dX6_announceLeap_25 (by decide) (fun c_7 => ?_) (fun c_7 => ?_)
    · have hv := hv.trans (if_pos c_7)
      refine lv_aload_n hx hb dX6_announceLeap_28 rfl (lv_at hl 1 rfl) ?_
      refine kVl hx hb hml hown hts hK hP hS hA (As := []) (rest := [.ref (ad (0))]) (c_X6_reading l dC dI cA ad hI M   hw0 ) (mkV hts q_928 q_53 q_925 q_927 q_26 hyX6_reading rfl rfl ⟨(Nat.le_of_ble_eq_true rfl), (Nat.le_of_ble_eq_true rfl)⟩) (w_recv hK hP (k := 0) (by decide) lyM0 (q := (RX6, TX6, 26)) rfl) rfl hl.1 rfl (Nat.le_of_ble_eq_true rfl) dX6_announceLeap_29 ⟨(Nat.le_of_ble_eq_true rfl), (Nat.le_of_ble_eq_true rfl)⟩ (fun r u H locs hw hP hS _ _ => ?_)
      obtain ⟨hw, hu⟩ := hw
      rw [hu] at hP
      have hv := bnd_name hv hw
      obtain ⟨r_8, er_8⟩ : ∃ z, z = r := ⟨_, rfl⟩
      rw [← er_8] at hv hw
      refine w_eql er_8.symm ?_
      have gr_8 := hw
      refine lv_iload_n hx hb dX6_announceLeap_32 rfl (lv_at hl 2 rfl) ?_
      refine kSl hx hb hml hown hts (As := [.int (nI j0)]) (rest := [.long r_8, .ref (ad (0))]) (c_X6_smearFrom l (nI j0) ) (mkS hts q_973 q_53 q_971 q_972 hyX6_smearFrom rfl rfl ⟨(Nat.le_of_ble_eq_true rfl), (Nat.le_of_ble_eq_true rfl)⟩) rfl hl.1 rfl (Nat.le_of_ble_eq_true rfl) dX6_announceLeap_33 ⟨(Nat.le_of_ble_eq_true rfl), (Nat.le_of_ble_eq_true rfl)⟩ ?_
      refine lv_topl (fun x_9 ex_9 => ?_)
      have hv := bnd_name hv ex_9
      refine jL_lt (tgt := 44) hx hb dX6_announceLeap_36 dX6_announceLeap_37 (by decide) (fun c_10 => ?_) (fun c_10 => ?_)
      · have hv := hv.trans (if_pos c_10)
        refine lv_iconst (v := 0) hx hb dX6_announceLeap_44 (by decide) ?_
        refine kVi hx hb hml hown hts hK hP hS hA (As := [.int (0 : Int32)]) (rest := []) (c_X6_refused l dC dI cA ad hI M  (0 : Int32) hw0 ) (mkV hts q_913 q_53 q_910 q_912 q_24 hyX6_refused rfl rfl ⟨(Nat.le_of_ble_eq_true rfl), (Nat.le_of_ble_eq_true rfl)⟩) (w_recv hK hP (k := 0) (by decide) lyM0 (q := (RX6, TX6, 26)) rfl) rfl hl.1 rfl (Nat.le_of_ble_eq_true rfl) dX6_announceLeap_45 ⟨(Nat.le_of_ble_eq_true rfl), (Nat.le_of_ble_eq_true rfl)⟩ (fun r u H locs hw hP hS _ _ => ?_)
        obtain ⟨M_11, eM_11⟩ : ∃ z, z = u := ⟨_, rfl⟩
        rw [← eM_11] at hP hw
        obtain ⟨r_12, er_12⟩ : ∃ z, z = r := ⟨_, rfl⟩
        rw [← er_12] at hw
        refine w_eqi er_12.symm ?_
        obtain ⟨hw, wM_11⟩ := hw
        have gM_11 := hw
        have hv := bnd2_name hv hw
        have lr_12 : r_12 = 0 := congrArg Prod.fst hw
        refine w_eqi lr_12 ?_
        refine j0_eq (tgt := 53) hx hb dX6_announceLeap_48 (by decide) (fun _ => ?_) (fun c_14 => absurd (by decide) c_14)
        refine lv_aload_n hx hb dX6_announceLeap_53 rfl (lv_at hl 1 rfl) ?_
        refine fg_X6_13 hx hb hts hK hP hown dX6_announceLeap_54 ?_
        refine lv_iload_n hx hb dX6_announceLeap_57 rfl (lv_at hl 2 rfl) ?_
        refine lv_iload_n hx hb dX6_announceLeap_58 rfl (lv_at hl 3 rfl) ?_
        refine j0_eq (tgt := 66) hx hb dX6_announceLeap_59 (by decide) (fun c_15 => ?_) (fun c_15 => ?_)
        · have hv := hv.trans (if_pos c_15)
          refine lv_iconst (v := 1) hx hb dX6_announceLeap_66 (by decide) ?_
          refine w_iastN hx hb hK hP hI hS hA (k := 1) (by decide) lyM1 uAM1 (i := j0) (by omega) (by decide) dX6_announceLeap_67 (fun H locs hP hS => ?_)
          obtain ⟨M_16, eM_16⟩ : ∃ z : Mem, z = sB M_11 0 (upd (gB M_11 0) (j0) (1 : Int32)) := ⟨_, rfl⟩
          rw [← eM_16] at hP
          have hv := bnd_name hv eM_16
          have wM_16 : WFm M_16 := by rw [eM_16]; exact WFm_sB wM_11 (by decide)
          refine lv_iload_n hx hb dX6_announceLeap_68 rfl (lv_at hl 2 rfl) ?_
          refine kSl hx hb hml hown hts (As := [.int (nI j0)]) (rest := []) (c_X6_smearFrom l (nI j0) ) (mkS hts q_973 q_53 q_971 q_972 hyX6_smearFrom rfl rfl ⟨(Nat.le_of_ble_eq_true rfl), (Nat.le_of_ble_eq_true rfl)⟩) rfl hl.1 rfl (Nat.le_of_ble_eq_true rfl) dX6_announceLeap_69 ⟨(Nat.le_of_ble_eq_true rfl), (Nat.le_of_ble_eq_true rfl)⟩ ?_
          refine lv_topl (fun x_17 ex_17 => ?_)
          have hv := bnd_name hv ex_17
          exact W.lret (v := x_17) hx hb hr (fun t ht hW => ⟨⟨_, M_16, rfl, ⟨hv.symm.trans eV, wM_16⟩, by rw [ht]; exact hP, va_K.moved hW.alike hK⟩, hS.F ht⟩) hS.2.2 dX6_announceLeap_72
        · have hv := hv.trans (if_neg c_15)
          refine lv_iconst (v := (-1)) hx hb dX6_announceLeap_62 (by decide) ?_
          refine lv_goto (tgt := 67) hx hb dX6_announceLeap_63 (by decide) ?_
          refine w_iastN hx hb hK hP hI hS hA (k := 1) (by decide) lyM1 uAM1 (i := j0) (by omega) (by decide) dX6_announceLeap_67 (fun H locs hP hS => ?_)
          obtain ⟨M_18, eM_18⟩ : ∃ z : Mem, z = sB M_11 0 (upd (gB M_11 0) (j0) ((-1) : Int32)) := ⟨_, rfl⟩
          rw [← eM_18] at hP
          have hv := bnd_name hv eM_18
          have wM_18 : WFm M_18 := by rw [eM_18]; exact WFm_sB wM_11 (by decide)
          refine lv_iload_n hx hb dX6_announceLeap_68 rfl (lv_at hl 2 rfl) ?_
          refine kSl hx hb hml hown hts (As := [.int (nI j0)]) (rest := []) (c_X6_smearFrom l (nI j0) ) (mkS hts q_973 q_53 q_971 q_972 hyX6_smearFrom rfl rfl ⟨(Nat.le_of_ble_eq_true rfl), (Nat.le_of_ble_eq_true rfl)⟩) rfl hl.1 rfl (Nat.le_of_ble_eq_true rfl) dX6_announceLeap_69 ⟨(Nat.le_of_ble_eq_true rfl), (Nat.le_of_ble_eq_true rfl)⟩ ?_
          refine lv_topl (fun x_19 ex_19 => ?_)
          have hv := bnd_name hv ex_19
          exact W.lret (v := x_19) hx hb hr (fun t ht hW => ⟨⟨_, M_18, rfl, ⟨hv.symm.trans eV, wM_18⟩, by rw [ht]; exact hP, va_K.moved hW.alike hK⟩, hS.F ht⟩) hS.2.2 dX6_announceLeap_72
      · have hv := hv.trans (if_neg c_10)
        refine lv_iconst (v := 2) hx hb dX6_announceLeap_40 (by decide) ?_
        refine lv_goto (tgt := 45) hx hb dX6_announceLeap_41 (by decide) ?_
        refine kVi hx hb hml hown hts hK hP hS hA (As := [.int (2 : Int32)]) (rest := []) (c_X6_refused l dC dI cA ad hI M  (2 : Int32) hw0 ) (mkV hts q_913 q_53 q_910 q_912 q_24 hyX6_refused rfl rfl ⟨(Nat.le_of_ble_eq_true rfl), (Nat.le_of_ble_eq_true rfl)⟩) (w_recv hK hP (k := 0) (by decide) lyM0 (q := (RX6, TX6, 26)) rfl) rfl hl.1 rfl (Nat.le_of_ble_eq_true rfl) dX6_announceLeap_45 ⟨(Nat.le_of_ble_eq_true rfl), (Nat.le_of_ble_eq_true rfl)⟩ (fun r u H locs hw hP hS _ _ => ?_)
        obtain ⟨M_20, eM_20⟩ : ∃ z, z = u := ⟨_, rfl⟩
        rw [← eM_20] at hP hw
        obtain ⟨r_21, er_21⟩ : ∃ z, z = r := ⟨_, rfl⟩
        rw [← er_21] at hw
        refine w_eqi er_21.symm ?_
        obtain ⟨hw, wM_20⟩ := hw
        have gM_20 := hw
        have hv := bnd2_name hv hw
        have lr_21 : r_21 = 1 := congrArg Prod.fst hw
        refine w_eqi lr_21 ?_
        refine j0_eq (tgt := 53) hx hb dX6_announceLeap_48 (by decide) (fun c_23 => absurd c_23 (by decide)) (fun _ => ?_)
        refine lv_lconst (v := 0) hx hb dX6_announceLeap_51 (by decide) ?_
        exact W.lret (v := (0 : Int64)) hx hb hr (fun t ht hW => ⟨⟨_, M_20, rfl, ⟨hv.symm.trans eV, wM_20⟩, by rw [ht]; exact hP, va_K.moved hW.alike hK⟩, hS.F ht⟩) hS.2.2 dX6_announceLeap_52
    · have hv := hv.trans (if_neg c_7)
      refine lv_iconst (v := 2) hx hb dX6_announceLeap_40 (by decide) ?_
      refine lv_goto (tgt := 45) hx hb dX6_announceLeap_41 (by decide) ?_
      refine kVi hx hb hml hown hts hK hP hS hA (As := [.int (2 : Int32)]) (rest := []) (c_X6_refused l dC dI cA ad hI M  (2 : Int32) hw0 ) (mkV hts q_913 q_53 q_910 q_912 q_24 hyX6_refused rfl rfl ⟨(Nat.le_of_ble_eq_true rfl), (Nat.le_of_ble_eq_true rfl)⟩) (w_recv hK hP (k := 0) (by decide) lyM0 (q := (RX6, TX6, 26)) rfl) rfl hl.1 rfl (Nat.le_of_ble_eq_true rfl) dX6_announceLeap_45 ⟨(Nat.le_of_ble_eq_true rfl), (Nat.le_of_ble_eq_true rfl)⟩ (fun r u H locs hw hP hS _ _ => ?_)
      obtain ⟨M_24, eM_24⟩ : ∃ z, z = u := ⟨_, rfl⟩
      rw [← eM_24] at hP hw
      obtain ⟨r_25, er_25⟩ : ∃ z, z = r := ⟨_, rfl⟩
      rw [← er_25] at hw
      refine w_eqi er_25.symm ?_
      obtain ⟨hw, wM_24⟩ := hw
      have gM_24 := hw
      have hv := bnd2_name hv hw
      have lr_25 : r_25 = 1 := congrArg Prod.fst hw
      refine w_eqi lr_25 ?_
      refine j0_eq (tgt := 53) hx hb dX6_announceLeap_48 (by decide) (fun c_27 => absurd c_27 (by decide)) (fun _ => ?_)
      refine lv_lconst (v := 0) hx hb dX6_announceLeap_51 (by decide) ?_
      exact W.lret (v := (0 : Int64)) hx hb hr (fun t ht hW => ⟨⟨_, M_24, rfl, ⟨hv.symm.trans eV, wM_24⟩, by rw [ht]; exact hP, va_K.moved hW.alike hK⟩, hS.F ht⟩) hS.2.2 dX6_announceLeap_52
def f_X6_civil_L7 (M : Mem)  : Nat → Nat → Int64 → Int64 × Mem
  | 0, _, _ => (0, M)
  | r + 1, i, y1_7 => if nI i < (21 : Int32) then bnd (f_X6_reading M  ) fun r_3 => bnd ((f_X6_smearFrom (nI i))) fun x_4 => bnd ((r_3 - x_4)) fun x_5 => if x_5 < (0 : Int64) then bnd ((y1_7 + ((gB M 0 (i)).toInt64 * (0 : Int64)))) fun x_7 => f_X6_civil_L7 M  r (i + 1) x_7 else if x_5 < (20000000000 : Int64) then bnd ((x_5 / (20000 : Int64))) fun x_9 => bnd ((y1_7 + ((gB M 0 (i)).toInt64 * x_9))) fun x_10 => f_X6_civil_L7 M  r (i + 1) x_10 else bnd ((y1_7 + ((gB M 0 (i)).toInt64 * (1000000 : Int64)))) fun x_11 => f_X6_civil_L7 M  r (i + 1) x_11 else bnd2 (f_X6_fineLong M  y1_7) fun r_13 M_12 => (r_13, M_12)
def f_X6_civil (M : Mem)  : Int64 × Mem := bnd (f_X6_reading M  ) fun r_1 => f_X6_civil_L7 M  (21 + 1 - 0) 0 r_1
theorem hyX6_civil : yX6_civil.cls ≠ "java/lang/invoke/MethodHandle" ∧ yX6_civil.cls ≠ "java/lang/invoke/VarHandle" ∧ (parseMethodDescriptor yX6_civil.desc).map (fun d => d.parameters.length) = some 0 := by decide +kernel
set_option maxHeartbeats 4000000 in
set_option maxRecDepth 100000 in
theorem c_X6_civil (l : Launch) (dC : Nat → ClassId) (dI : Nat → Nat → Nat) (cA : Nat → ClassId) (ad : Nat → Nat) (hI : Inj 12 ad) (M : Mem) (hw0 : WFm M)  : Met l yX6_civil (.code yX6_civil cX6_civil 8 (some .long) :: AG) ({ frames := 2, cells := 0, slots := 0, locals := 45 } : Room) (va_Pc [.ref (ad (0))] (PM dC dI cA ad M)) (va_Ql (fun r u => (r, u) = f_X6_civil M  ∧ WFm u) (PM dC dI cA ad) (adS 12 ad)) 0 0 (adS 12 ad) := by
  refine cMet (by decide) (Nat.le_of_ble_eq_true rfl) ?_
  intro p e s m below meth c ls hx hb hr hml hlocks hown hts hK hP hS hl
  have hA : ∀ q, adS 12 ad q → adS 12 ad q := fun _ h => h
  have hl : lv_has ls 8 [(0, .ref (ad (0)))] := hl
  obtain ⟨V, eV⟩ : ∃ z, z = f_X6_civil M  := ⟨_, rfl⟩
  have hv := eV
  unfold f_X6_civil at hv
  refine lv_aload_n hx hb dX6_civil_0 rfl (lv_at hl 0 rfl) ?_
  refine kVl hx hb hml hown hts hK hP hS hA (As := []) (rest := []) (c_X6_reading l dC dI cA ad hI M   hw0 ) (mkV hts q_928 q_53 q_925 q_927 q_26 hyX6_reading rfl rfl ⟨(Nat.le_of_ble_eq_true rfl), (Nat.le_of_ble_eq_true rfl)⟩) (w_recv hK hP (k := 0) (by decide) lyM0 (q := (RX6, TX6, 26)) rfl) rfl hl.1 rfl (Nat.le_of_ble_eq_true rfl) dX6_civil_1 ⟨(Nat.le_of_ble_eq_true rfl), (Nat.le_of_ble_eq_true rfl)⟩ (fun r u H locs hw hP hS _ _ => ?_)
  obtain ⟨hw, hu⟩ := hw
  rw [hu] at hP
  have hv := bnd_name hv hw
  obtain ⟨r_1, er_1⟩ : ∃ z, z = r := ⟨_, rfl⟩
  rw [← er_1] at hv hw
  refine w_eql er_1.symm ?_
  have gr_1 := hw
  refine lv_lstore_n (lv' := [(1, .long r_1), (0, .ref (ad (0)))]) hx hb dX6_civil_4 rfl hl (by decide) rfl (fun ls hl => ?_)
  refine lv_iconst (v := 0) hx hb dX6_civil_5 (by decide) ?_
  refine lv_istore_n (lv' := [(3, .int (0 : Int32)), (1, .long r_1), (0, .ref (ad (0)))]) hx hb dX6_civil_6 rfl hl (by decide) rfl (fun ls hl => ?_)
  have L7 : ∀ (r i : Nat) (y1_7 : Int64) (H : Heap) (locs : List Loc) (ls : Array Slot), i + r = 21 + 1 → i ≤ 21 → V = f_X6_civil_L7 M  r i y1_7 → va_P (dC, dI) vwCl (wld 12 layM cA ad M) H → va_S (adS 12 ad) s.heap H locs → lv_has ls 8 [(3, .int (nI i)), (1, .long y1_7), (0, .ref (ad (0)))] → W p l e ({ frames := 2, cells := 0, slots := 0, locals := 45 } : Room) s m ([.ref (ad (0))] : List Value).toArray below meth c H locs 0 0 (MQ below (va_Ql (fun r u => (r, u) = f_X6_civil M  ∧ WFm u) (PM dC dI cA ad) (adS 12 ad)) ([.ref (ad (0))] : List Value).toArray s 0 0 (adS 12 ad)) (F0 m 7 ls []) := by
    intro r
    induction r with
    | zero =>
      intro i y1_7 H locs ls hir hib
      omega
    | succ r ih =>
      intro i y1_7 H locs ls hir hib hv hP hS hl
      rw [f_X6_civil_L7] at hv
      refine lv_iload_n hx hb dX6_civil_7 rfl (lv_at hl 0 rfl) ?_
      refine lv_bipush (v := 21) hx hb dX6_civil_8 (by decide) ?_
      refine jI_ge (tgt := 77) hx hb dX6_civil_10 (by decide) (fun c_2 => ?_) (fun c_2 => ?_)
      · have hv := hv.trans (if_pos c_2)
        have hc_2 : i < 21 := nI_lt8 (n := 21) c_2 (by omega) (by decide)
        refine lv_aload_n hx hb dX6_civil_13 rfl (lv_at hl 2 rfl) ?_
        refine kVl hx hb hml hown hts hK hP hS hA (As := []) (rest := []) (c_X6_reading l dC dI cA ad hI M   hw0 ) (mkV hts q_928 q_53 q_925 q_927 q_26 hyX6_reading rfl rfl ⟨(Nat.le_of_ble_eq_true rfl), (Nat.le_of_ble_eq_true rfl)⟩) (w_recv hK hP (k := 0) (by decide) lyM0 (q := (RX6, TX6, 26)) rfl) rfl hl.1 rfl (Nat.le_of_ble_eq_true rfl) dX6_civil_14 ⟨(Nat.le_of_ble_eq_true rfl), (Nat.le_of_ble_eq_true rfl)⟩ (fun r u H locs hw hP hS _ _ => ?_)
        obtain ⟨hw, hu⟩ := hw
        rw [hu] at hP
        have hv := bnd_name hv hw
        obtain ⟨r_3, er_3⟩ : ∃ z, z = r := ⟨_, rfl⟩
        rw [← er_3] at hv hw
        refine w_eql er_3.symm ?_
        have gr_3 := hw
        refine lv_iload_n hx hb dX6_civil_17 rfl (lv_at hl 0 rfl) ?_
        refine kSl hx hb hml hown hts (As := [.int (nI i)]) (rest := [.long r_3]) (c_X6_smearFrom l (nI i) ) (mkS hts q_973 q_53 q_971 q_972 hyX6_smearFrom rfl rfl ⟨(Nat.le_of_ble_eq_true rfl), (Nat.le_of_ble_eq_true rfl)⟩) rfl hl.1 rfl (Nat.le_of_ble_eq_true rfl) dX6_civil_18 ⟨(Nat.le_of_ble_eq_true rfl), (Nat.le_of_ble_eq_true rfl)⟩ ?_
        refine lv_topl (fun x_4 ex_4 => ?_)
        have hv := bnd_name hv ex_4
        refine lv_lsub hx hb dX6_civil_21 ?_
        refine lv_topl (fun x_5 ex_5 => ?_)
        have hv := bnd_name hv ex_5
        refine lv_lstore (lv' := [(4, .long x_5), (3, .int (nI i)), (1, .long y1_7), (0, .ref (ad (0)))]) hx hb dX6_civil_22 hl (by decide) rfl (fun ls hl => ?_)
        refine lv_lload hx hb dX6_civil_24 (lv_at hl 0 rfl) ?_
        refine lv_lconst (v := 0) hx hb dX6_civil_26 (by decide) ?_
        refine jL_ge (tgt := 35) hx hb dX6_civil_27 dX6_civil_28 (by decide) (fun c_6 => ?_) (fun c_6 => ?_)
        · have hv := hv.trans (if_pos c_6)
          refine lv_lconst (v := 0) hx hb dX6_civil_31 (by decide) ?_
          refine lv_goto (tgt := 56) hx hb dX6_civil_32 (by decide) ?_
          refine lv_lstore (lv' := [(6, .long (0 : Int64)), (4, .long x_5), (3, .int (nI i)), (1, .long y1_7), (0, .ref (ad (0)))]) hx hb dX6_civil_56 hl (by decide) rfl (fun ls hl => ?_)
          refine lv_lload_n hx hb dX6_civil_58 rfl (lv_at hl 3 rfl) ?_
          refine lv_aload_n hx hb dX6_civil_59 rfl (lv_at hl 4 rfl) ?_
          refine fg_X6_13 hx hb hts hK hP hown dX6_civil_60 ?_
          refine lv_iload_n hx hb dX6_civil_63 rfl (lv_at hl 2 rfl) ?_
          refine w_ialdN hx hb hK hP (k := 1) (by decide) lyM1 (i := i) (by omega) (by decide) dX6_civil_64 ?_
          refine lv_i2l (v := (gB M 0 (i)).toInt64) hx hb dX6_civil_65 rfl ?_
          refine lv_lload hx hb dX6_civil_66 (lv_at hl 0 rfl) ?_
          refine lv_lmul hx hb dX6_civil_68 ?_
          refine lv_ladd hx hb dX6_civil_69 ?_
          refine lv_topl (fun x_7 ex_7 => ?_)
          have hv := bnd_name hv ex_7
          refine lv_lstore_n (lv' := [(1, .long x_7), (6, .long (0 : Int64)), (4, .long x_5), (3, .int (nI i)), (0, .ref (ad (0)))]) hx hb dX6_civil_70 rfl hl (by decide) rfl (fun ls hl => ?_)
          refine lv_iinc (v := nI (i + 1)) (lv' := [(3, .int (nI (i + 1))), (1, .long x_7), (6, .long (0 : Int64)), (4, .long x_5), (0, .ref (ad (0)))]) hx hb dX6_civil_71 hl (k := 3) rfl (show nI (i) + 1 = nI (i + 1) from nI_1 _) (by decide) rfl (fun ls hl => ?_)
          refine lv_goto (tgt := 7) hx hb dX6_civil_74 (by decide) ?_
          exact ih (i + 1) x_7 _ _ _ (by omega) (by omega)  hv hP hS (lv_sub hl [0, 1, 4] rfl)
        · have hv := hv.trans (if_neg c_6)
          refine lv_lload hx hb dX6_civil_35 (lv_at hl 0 rfl) ?_
          refine lv_ldc2 (v := 20000000000) hx hb hown (hts _ q_975) dX6_civil_37 ?_
          refine jL_lt (tgt := 50) hx hb dX6_civil_40 dX6_civil_41 (by decide) (fun c_8 => ?_) (fun c_8 => ?_)
          · have hv := hv.trans (if_pos c_8)
            refine lv_lload hx hb dX6_civil_50 (lv_at hl 0 rfl) ?_
            refine lv_ldc2 (v := 20000) hx hb hown (hts _ q_980) dX6_civil_52 ?_
            refine lv_ldiv hx hb dX6_civil_55 (by decide) ?_
            refine lv_topl (fun x_9 ex_9 => ?_)
            have hv := bnd_name hv ex_9
            refine lv_lstore (lv' := [(6, .long x_9), (4, .long x_5), (3, .int (nI i)), (1, .long y1_7), (0, .ref (ad (0)))]) hx hb dX6_civil_56 hl (by decide) rfl (fun ls hl => ?_)
            refine lv_lload_n hx hb dX6_civil_58 rfl (lv_at hl 3 rfl) ?_
            refine lv_aload_n hx hb dX6_civil_59 rfl (lv_at hl 4 rfl) ?_
            refine fg_X6_13 hx hb hts hK hP hown dX6_civil_60 ?_
            refine lv_iload_n hx hb dX6_civil_63 rfl (lv_at hl 2 rfl) ?_
            refine w_ialdN hx hb hK hP (k := 1) (by decide) lyM1 (i := i) (by omega) (by decide) dX6_civil_64 ?_
            refine lv_i2l (v := (gB M 0 (i)).toInt64) hx hb dX6_civil_65 rfl ?_
            refine lv_lload hx hb dX6_civil_66 (lv_at hl 0 rfl) ?_
            refine lv_lmul hx hb dX6_civil_68 ?_
            refine lv_ladd hx hb dX6_civil_69 ?_
            refine lv_topl (fun x_10 ex_10 => ?_)
            have hv := bnd_name hv ex_10
            refine lv_lstore_n (lv' := [(1, .long x_10), (6, .long x_9), (4, .long x_5), (3, .int (nI i)), (0, .ref (ad (0)))]) hx hb dX6_civil_70 rfl hl (by decide) rfl (fun ls hl => ?_)
            refine lv_iinc (v := nI (i + 1)) (lv' := [(3, .int (nI (i + 1))), (1, .long x_10), (6, .long x_9), (4, .long x_5), (0, .ref (ad (0)))]) hx hb dX6_civil_71 hl (k := 3) rfl (show nI (i) + 1 = nI (i + 1) from nI_1 _) (by decide) rfl (fun ls hl => ?_)
            refine lv_goto (tgt := 7) hx hb dX6_civil_74 (by decide) ?_
            exact ih (i + 1) x_10 _ _ _ (by omega) (by omega)  hv hP hS (lv_sub hl [0, 1, 4] rfl)
          · have hv := hv.trans (if_neg c_8)
            refine lv_ldc2 (v := 1000000) hx hb hown (hts _ q_914) dX6_civil_44 ?_
            refine lv_goto (tgt := 56) hx hb dX6_civil_47 (by decide) ?_
            refine lv_lstore (lv' := [(6, .long (1000000 : Int64)), (4, .long x_5), (3, .int (nI i)), (1, .long y1_7), (0, .ref (ad (0)))]) hx hb dX6_civil_56 hl (by decide) rfl (fun ls hl => ?_)
            refine lv_lload_n hx hb dX6_civil_58 rfl (lv_at hl 3 rfl) ?_
            refine lv_aload_n hx hb dX6_civil_59 rfl (lv_at hl 4 rfl) ?_
            refine fg_X6_13 hx hb hts hK hP hown dX6_civil_60 ?_
            refine lv_iload_n hx hb dX6_civil_63 rfl (lv_at hl 2 rfl) ?_
            refine w_ialdN hx hb hK hP (k := 1) (by decide) lyM1 (i := i) (by omega) (by decide) dX6_civil_64 ?_
            refine lv_i2l (v := (gB M 0 (i)).toInt64) hx hb dX6_civil_65 rfl ?_
            refine lv_lload hx hb dX6_civil_66 (lv_at hl 0 rfl) ?_
            refine lv_lmul hx hb dX6_civil_68 ?_
            refine lv_ladd hx hb dX6_civil_69 ?_
            refine lv_topl (fun x_11 ex_11 => ?_)
            have hv := bnd_name hv ex_11
            refine lv_lstore_n (lv' := [(1, .long x_11), (6, .long (1000000 : Int64)), (4, .long x_5), (3, .int (nI i)), (0, .ref (ad (0)))]) hx hb dX6_civil_70 rfl hl (by decide) rfl (fun ls hl => ?_)
            refine lv_iinc (v := nI (i + 1)) (lv' := [(3, .int (nI (i + 1))), (1, .long x_11), (6, .long (1000000 : Int64)), (4, .long x_5), (0, .ref (ad (0)))]) hx hb dX6_civil_71 hl (k := 3) rfl (show nI (i) + 1 = nI (i + 1) from nI_1 _) (by decide) rfl (fun ls hl => ?_)
            refine lv_goto (tgt := 7) hx hb dX6_civil_74 (by decide) ?_
            exact ih (i + 1) x_11 _ _ _ (by omega) (by omega)  hv hP hS (lv_sub hl [0, 1, 4] rfl)
      · have hv := hv.trans (if_neg c_2)
        have hc_2 : ¬ i < 21 := fun h => c_2 (nI_lt h (by decide))
        refine lv_aload_n hx hb dX6_civil_77 rfl (lv_at hl 2 rfl) ?_
        refine lv_lload_n hx hb dX6_civil_78 rfl (lv_at hl 1 rfl) ?_
        refine kVl hx hb hml hown hts hK hP hS hA (As := [.long y1_7]) (rest := []) (c_X6_fineLong l dC dI cA ad hI M  y1_7 hw0 ) (mkV hts q_945 q_53 q_942 q_944 q_27 hyX6_fineLong rfl rfl ⟨(Nat.le_of_ble_eq_true rfl), (Nat.le_of_ble_eq_true rfl)⟩) (w_recv hK hP (k := 0) (by decide) lyM0 (q := (RX6, TX6, 26)) rfl) rfl hl.1 rfl (Nat.le_of_ble_eq_true rfl) dX6_civil_79 ⟨(Nat.le_of_ble_eq_true rfl), (Nat.le_of_ble_eq_true rfl)⟩ (fun r u H locs hw hP hS _ _ => ?_)
        obtain ⟨M_12, eM_12⟩ : ∃ z, z = u := ⟨_, rfl⟩
        rw [← eM_12] at hP hw
        obtain ⟨r_13, er_13⟩ : ∃ z, z = r := ⟨_, rfl⟩
        rw [← er_13] at hw
        refine w_eql er_13.symm ?_
        obtain ⟨hw, wM_12⟩ := hw
        have gM_12 := hw
        have hv := bnd2_name hv hw
        exact W.lret (v := r_13) hx hb hr (fun t ht hW => ⟨⟨_, M_12, rfl, ⟨hv.symm.trans eV, wM_12⟩, by rw [ht]; exact hP, va_K.moved hW.alike hK⟩, hS.F ht⟩) hS.2.2 dX6_civil_82
  exact L7 (21 + 1 - 0) 0 r_1 _ _ _ (by omega) (by omega)  hv hP hS (lv_sub hl [0, 1, 2] rfl)
def f_X6_addServer (M : Mem) (p0 : Int32) (p1 : Int32) (p2 : Int32) (p3 : Int32) : Int32 × Mem := bnd ((f_X6_in ((p0).toInt64) (1 : Int64) (14 : Int64))) fun x_1 => if x_1 = (0 : Int32) then bnd2 (f_X6_refused M  (1 : Int32)) fun r_5 M_4 => ((0 : Int32), M_4) else bnd ((f_X6_in ((p1).toInt64) ((-1000000) : Int64) (1000000 : Int64))) fun x_8 => if x_8 = (0 : Int32) then bnd2 (f_X6_refused M  (1 : Int32)) fun r_12 M_11 => ((0 : Int32), M_11) else bnd ((f_X6_in ((p2).toInt64) (0 : Int64) (1000000 : Int64))) fun x_15 => if x_15 = (0 : Int32) then bnd2 (f_X6_refused M  (1 : Int32)) fun r_19 M_18 => ((0 : Int32), M_18) else bnd ((f_X6_in ((p3).toInt64) (0 : Int64) (1000000 : Int64))) fun x_22 => if x_22 = (0 : Int32) then bnd2 (f_X6_refused M  (1 : Int32)) fun r_26 M_25 => ((0 : Int32), M_25) else if nI (sn M) = (8 : Int32) then bnd2 (f_X6_refused M  (2 : Int32)) fun r_33 M_32 => ((0 : Int32), M_32) else bnd2 (f_X6_refused M  (0 : Int32)) fun r_37 M_36 => bnd (sB M_36 1 (upd (gB M_36 1) (sn M_36) p0)) fun M_41 => bnd (sB M_41 2 (upd (gB M_41 2) (sn M_41) p1)) fun M_43 => bnd (sB M_43 3 (upd (gB M_43 3) (sn M_43) p2)) fun M_45 => bnd (sB M_45 4 (upd (gB M_45 4) (sn M_45) p3)) fun M_47 => bnd (sB M_47 5 (upd (gB M_47 5) (sn M_47) (0 : Int32))) fun M_49 => bnd (sI M_49 (6) (nI ((sn M_49) + 1))) fun M_51 => (nI ((sn M_51) - 1), M_51)
theorem hyX6_addServer : yX6_addServer.cls ≠ "java/lang/invoke/MethodHandle" ∧ yX6_addServer.cls ≠ "java/lang/invoke/VarHandle" ∧ (parseMethodDescriptor yX6_addServer.desc).map (fun d => d.parameters.length) = some 4 := by decide +kernel
set_option maxHeartbeats 4000000 in
set_option maxRecDepth 100000 in
theorem c_X6_addServer (l : Launch) (dC : Nat → ClassId) (dI : Nat → Nat → Nat) (cA : Nat → ClassId) (ad : Nat → Nat) (hI : Inj 12 ad) (M : Mem) (p0 : Int32) (p1 : Int32) (p2 : Int32) (p3 : Int32) (hw0 : WFm M)  : Met l yX6_addServer (.code yX6_addServer cX6_addServer 6 (some .int) :: AG) ({ frames := 1, cells := 0, slots := 0, locals := 25 } : Room) (va_Pc [.ref (ad (0)), .int p0, .int p1, .int p2, .int p3] (PM dC dI cA ad M)) (va_Qi (fun r u => (r, u) = f_X6_addServer M p0 p1 p2 p3 ∧ WFm u) (PM dC dI cA ad) (adS 12 ad)) 0 0 (adS 12 ad) := by
  refine cMet (by decide) (Nat.le_of_ble_eq_true rfl) ?_
  intro p e s m below meth c ls hx hb hr hml hlocks hown hts hK hP hS hl
  have hA : ∀ q, adS 12 ad q → adS 12 ad q := fun _ h => h
  have hl : lv_has ls 6 [(0, .ref (ad (0))), (1, .int p0), (2, .int p1), (3, .int p2), (4, .int p3)] := hl
  obtain ⟨V, eV⟩ : ∃ z, z = f_X6_addServer M p0 p1 p2 p3 := ⟨_, rfl⟩
  have hv := eV
  unfold f_X6_addServer at hv
  refine lv_iload_n hx hb dX6_addServer_0 rfl (lv_at hl 1 rfl) ?_
  refine lv_i2l (v := (p0).toInt64) hx hb dX6_addServer_1 rfl ?_
  refine lv_lconst (v := 1) hx hb dX6_addServer_2 (by decide) ?_
  refine lv_ldc2 (v := 14) hx hb hown (hts _ q_985) dX6_addServer_3 ?_
  refine kSi hx hb hml hown hts (As := [.long ((p0).toInt64), .long (1 : Int64), .long (14 : Int64)]) (rest := []) (c_X6_in l ((p0).toInt64) (1 : Int64) (14 : Int64) ) (mkS hts q_909 q_53 q_907 q_908 hyX6_in rfl rfl ⟨(Nat.le_of_ble_eq_true rfl), (Nat.le_of_ble_eq_true rfl)⟩) rfl hl.1 rfl (Nat.le_of_ble_eq_true rfl) dX6_addServer_6 ⟨(Nat.le_of_ble_eq_true rfl), (Nat.le_of_ble_eq_true rfl)⟩ ?_
  refine lv_topi (fun x_1 ex_1 => ?_)
  have hv := bnd_name hv ex_1
  have bx_1 : x_1 = 0 ∨ x_1 = 1 := by rw [ex_1]; exact f_X6_in_b ((p0).toInt64) (1 : Int64) (14 : Int64)
  refine j0_eq (tgt := 55) hx hb dX6_addServer_9 (by decide) (fun c_2 => ?_) (fun c_2 => ?_)
  · have hv := hv.trans (if_pos c_2)
    refine lv_iconst (v := 0) hx hb dX6_addServer_55 (by decide) ?_
    refine lv_istore (lv' := [(5, .int (0 : Int32)), (0, .ref (ad (0))), (1, .int p0), (2, .int p1), (3, .int p2), (4, .int p3)]) hx hb dX6_addServer_56 hl (by decide) rfl (fun ls hl => ?_)
    refine lv_aload_n hx hb dX6_addServer_58 rfl (lv_at hl 1 rfl) ?_
    refine lv_iload hx hb dX6_addServer_59 (lv_at hl 0 rfl) ?_
    refine j0_ne (tgt := 68) hx hb dX6_addServer_61 (by decide) (fun _ => ?_) (fun c_3 => absurd (by decide) c_3)
    refine lv_iconst (v := 1) hx hb dX6_addServer_64 (by decide) ?_
    refine lv_goto (tgt := 82) hx hb dX6_addServer_65 (by decide) ?_
    refine kVi hx hb hml hown hts hK hP hS hA (As := [.int (1 : Int32)]) (rest := []) (c_X6_refused l dC dI cA ad hI M  (1 : Int32) hw0 ) (mkV hts q_913 q_53 q_910 q_912 q_24 hyX6_refused rfl rfl ⟨(Nat.le_of_ble_eq_true rfl), (Nat.le_of_ble_eq_true rfl)⟩) (w_recv hK hP (k := 0) (by decide) lyM0 (q := (RX6, TX6, 26)) rfl) rfl hl.1 rfl (Nat.le_of_ble_eq_true rfl) dX6_addServer_82 ⟨(Nat.le_of_ble_eq_true rfl), (Nat.le_of_ble_eq_true rfl)⟩ (fun r u H locs hw hP hS _ _ => ?_)
    obtain ⟨M_4, eM_4⟩ : ∃ z, z = u := ⟨_, rfl⟩
    rw [← eM_4] at hP hw
    obtain ⟨r_5, er_5⟩ : ∃ z, z = r := ⟨_, rfl⟩
    rw [← er_5] at hw
    refine w_eqi er_5.symm ?_
    obtain ⟨hw, wM_4⟩ := hw
    have gM_4 := hw
    have ssM_4 : sn M_4 = sn M := congrArg (fun z : Int32 × Mem => sn z.2) hw
    have hv := bnd2_name hv hw
    have lr_5 : r_5 = 1 := congrArg Prod.fst hw
    refine w_eqi lr_5 ?_
    refine j0_eq (tgt := 90) hx hb dX6_addServer_85 (by decide) (fun c_7 => absurd c_7 (by decide)) (fun _ => ?_)
    refine lv_iconst (v := 0) hx hb dX6_addServer_88 (by decide) ?_
    exact W.iret (v := (0 : Int32)) hx hb hr (fun t ht hW => ⟨⟨_, M_4, rfl, ⟨hv.symm.trans eV, wM_4⟩, by rw [ht]; exact hP, va_K.moved hW.alike hK⟩, hS.F ht⟩) hS.2.2 dX6_addServer_89
  · have hv := hv.trans (if_neg c_2)
    refine lv_iload_n hx hb dX6_addServer_12 rfl (lv_at hl 2 rfl) ?_
    refine lv_i2l (v := (p1).toInt64) hx hb dX6_addServer_13 rfl ?_
    refine lv_ldc2 (v := (-1000000)) hx hb hown (hts _ q_986) dX6_addServer_14 ?_
    refine lv_ldc2 (v := 1000000) hx hb hown (hts _ q_914) dX6_addServer_17 ?_
    refine kSi hx hb hml hown hts (As := [.long ((p1).toInt64), .long ((-1000000) : Int64), .long (1000000 : Int64)]) (rest := []) (c_X6_in l ((p1).toInt64) ((-1000000) : Int64) (1000000 : Int64) ) (mkS hts q_909 q_53 q_907 q_908 hyX6_in rfl rfl ⟨(Nat.le_of_ble_eq_true rfl), (Nat.le_of_ble_eq_true rfl)⟩) rfl hl.1 rfl (Nat.le_of_ble_eq_true rfl) dX6_addServer_20 ⟨(Nat.le_of_ble_eq_true rfl), (Nat.le_of_ble_eq_true rfl)⟩ ?_
    refine lv_topi (fun x_8 ex_8 => ?_)
    have hv := bnd_name hv ex_8
    have bx_8 : x_8 = 0 ∨ x_8 = 1 := by rw [ex_8]; exact f_X6_in_b ((p1).toInt64) ((-1000000) : Int64) (1000000 : Int64)
    refine j0_eq (tgt := 55) hx hb dX6_addServer_23 (by decide) (fun c_9 => ?_) (fun c_9 => ?_)
    · have hv := hv.trans (if_pos c_9)
      refine lv_iconst (v := 0) hx hb dX6_addServer_55 (by decide) ?_
      refine lv_istore (lv' := [(5, .int (0 : Int32)), (0, .ref (ad (0))), (1, .int p0), (2, .int p1), (3, .int p2), (4, .int p3)]) hx hb dX6_addServer_56 hl (by decide) rfl (fun ls hl => ?_)
      refine lv_aload_n hx hb dX6_addServer_58 rfl (lv_at hl 1 rfl) ?_
      refine lv_iload hx hb dX6_addServer_59 (lv_at hl 0 rfl) ?_
      refine j0_ne (tgt := 68) hx hb dX6_addServer_61 (by decide) (fun _ => ?_) (fun c_10 => absurd (by decide) c_10)
      refine lv_iconst (v := 1) hx hb dX6_addServer_64 (by decide) ?_
      refine lv_goto (tgt := 82) hx hb dX6_addServer_65 (by decide) ?_
      refine kVi hx hb hml hown hts hK hP hS hA (As := [.int (1 : Int32)]) (rest := []) (c_X6_refused l dC dI cA ad hI M  (1 : Int32) hw0 ) (mkV hts q_913 q_53 q_910 q_912 q_24 hyX6_refused rfl rfl ⟨(Nat.le_of_ble_eq_true rfl), (Nat.le_of_ble_eq_true rfl)⟩) (w_recv hK hP (k := 0) (by decide) lyM0 (q := (RX6, TX6, 26)) rfl) rfl hl.1 rfl (Nat.le_of_ble_eq_true rfl) dX6_addServer_82 ⟨(Nat.le_of_ble_eq_true rfl), (Nat.le_of_ble_eq_true rfl)⟩ (fun r u H locs hw hP hS _ _ => ?_)
      obtain ⟨M_11, eM_11⟩ : ∃ z, z = u := ⟨_, rfl⟩
      rw [← eM_11] at hP hw
      obtain ⟨r_12, er_12⟩ : ∃ z, z = r := ⟨_, rfl⟩
      rw [← er_12] at hw
      refine w_eqi er_12.symm ?_
      obtain ⟨hw, wM_11⟩ := hw
      have gM_11 := hw
      have ssM_11 : sn M_11 = sn M := congrArg (fun z : Int32 × Mem => sn z.2) hw
      have hv := bnd2_name hv hw
      have lr_12 : r_12 = 1 := congrArg Prod.fst hw
      refine w_eqi lr_12 ?_
      refine j0_eq (tgt := 90) hx hb dX6_addServer_85 (by decide) (fun c_14 => absurd c_14 (by decide)) (fun _ => ?_)
      refine lv_iconst (v := 0) hx hb dX6_addServer_88 (by decide) ?_
      exact W.iret (v := (0 : Int32)) hx hb hr (fun t ht hW => ⟨⟨_, M_11, rfl, ⟨hv.symm.trans eV, wM_11⟩, by rw [ht]; exact hP, va_K.moved hW.alike hK⟩, hS.F ht⟩) hS.2.2 dX6_addServer_89
    · have hv := hv.trans (if_neg c_9)
      refine lv_iload_n hx hb dX6_addServer_26 rfl (lv_at hl 3 rfl) ?_
      refine lv_i2l (v := (p2).toInt64) hx hb dX6_addServer_27 rfl ?_
      refine lv_lconst (v := 0) hx hb dX6_addServer_28 (by decide) ?_
      refine lv_ldc2 (v := 1000000) hx hb hown (hts _ q_914) dX6_addServer_29 ?_
      refine kSi hx hb hml hown hts (As := [.long ((p2).toInt64), .long (0 : Int64), .long (1000000 : Int64)]) (rest := []) (c_X6_in l ((p2).toInt64) (0 : Int64) (1000000 : Int64) ) (mkS hts q_909 q_53 q_907 q_908 hyX6_in rfl rfl ⟨(Nat.le_of_ble_eq_true rfl), (Nat.le_of_ble_eq_true rfl)⟩) rfl hl.1 rfl (Nat.le_of_ble_eq_true rfl) dX6_addServer_32 ⟨(Nat.le_of_ble_eq_true rfl), (Nat.le_of_ble_eq_true rfl)⟩ ?_
      refine lv_topi (fun x_15 ex_15 => ?_)
      have hv := bnd_name hv ex_15
      have bx_15 : x_15 = 0 ∨ x_15 = 1 := by rw [ex_15]; exact f_X6_in_b ((p2).toInt64) (0 : Int64) (1000000 : Int64)
      refine j0_eq (tgt := 55) hx hb dX6_addServer_35 (by decide) (fun c_16 => ?_) (fun c_16 => ?_)
      · have hv := hv.trans (if_pos c_16)
        refine lv_iconst (v := 0) hx hb dX6_addServer_55 (by decide) ?_
        refine lv_istore (lv' := [(5, .int (0 : Int32)), (0, .ref (ad (0))), (1, .int p0), (2, .int p1), (3, .int p2), (4, .int p3)]) hx hb dX6_addServer_56 hl (by decide) rfl (fun ls hl => ?_)
        refine lv_aload_n hx hb dX6_addServer_58 rfl (lv_at hl 1 rfl) ?_
        refine lv_iload hx hb dX6_addServer_59 (lv_at hl 0 rfl) ?_
        refine j0_ne (tgt := 68) hx hb dX6_addServer_61 (by decide) (fun _ => ?_) (fun c_17 => absurd (by decide) c_17)
        refine lv_iconst (v := 1) hx hb dX6_addServer_64 (by decide) ?_
        refine lv_goto (tgt := 82) hx hb dX6_addServer_65 (by decide) ?_
        refine kVi hx hb hml hown hts hK hP hS hA (As := [.int (1 : Int32)]) (rest := []) (c_X6_refused l dC dI cA ad hI M  (1 : Int32) hw0 ) (mkV hts q_913 q_53 q_910 q_912 q_24 hyX6_refused rfl rfl ⟨(Nat.le_of_ble_eq_true rfl), (Nat.le_of_ble_eq_true rfl)⟩) (w_recv hK hP (k := 0) (by decide) lyM0 (q := (RX6, TX6, 26)) rfl) rfl hl.1 rfl (Nat.le_of_ble_eq_true rfl) dX6_addServer_82 ⟨(Nat.le_of_ble_eq_true rfl), (Nat.le_of_ble_eq_true rfl)⟩ (fun r u H locs hw hP hS _ _ => ?_)
        obtain ⟨M_18, eM_18⟩ : ∃ z, z = u := ⟨_, rfl⟩
        rw [← eM_18] at hP hw
        obtain ⟨r_19, er_19⟩ : ∃ z, z = r := ⟨_, rfl⟩
        rw [← er_19] at hw
        refine w_eqi er_19.symm ?_
        obtain ⟨hw, wM_18⟩ := hw
        have gM_18 := hw
        have ssM_18 : sn M_18 = sn M := congrArg (fun z : Int32 × Mem => sn z.2) hw
        have hv := bnd2_name hv hw
        have lr_19 : r_19 = 1 := congrArg Prod.fst hw
        refine w_eqi lr_19 ?_
        refine j0_eq (tgt := 90) hx hb dX6_addServer_85 (by decide) (fun c_21 => absurd c_21 (by decide)) (fun _ => ?_)
        refine lv_iconst (v := 0) hx hb dX6_addServer_88 (by decide) ?_
        exact W.iret (v := (0 : Int32)) hx hb hr (fun t ht hW => ⟨⟨_, M_18, rfl, ⟨hv.symm.trans eV, wM_18⟩, by rw [ht]; exact hP, va_K.moved hW.alike hK⟩, hS.F ht⟩) hS.2.2 dX6_addServer_89
      · have hv := hv.trans (if_neg c_16)
        refine lv_iload hx hb dX6_addServer_38 (lv_at hl 4 rfl) ?_
        refine lv_i2l (v := (p3).toInt64) hx hb dX6_addServer_40 rfl ?_
        refine lv_lconst (v := 0) hx hb dX6_addServer_41 (by decide) ?_
        refine lv_ldc2 (v := 1000000) hx hb hown (hts _ q_914) dX6_addServer_42 ?_
        refine kSi hx hb hml hown hts (As := [.long ((p3).toInt64), .long (0 : Int64), .long (1000000 : Int64)]) (rest := []) (c_X6_in l ((p3).toInt64) (0 : Int64) (1000000 : Int64) ) (mkS hts q_909 q_53 q_907 q_908 hyX6_in rfl rfl ⟨(Nat.le_of_ble_eq_true rfl), (Nat.le_of_ble_eq_true rfl)⟩) rfl hl.1 rfl (Nat.le_of_ble_eq_true rfl) dX6_addServer_45 ⟨(Nat.le_of_ble_eq_true rfl), (Nat.le_of_ble_eq_true rfl)⟩ ?_
        refine lv_topi (fun x_22 ex_22 => ?_)
        have hv := bnd_name hv ex_22
        have bx_22 : x_22 = 0 ∨ x_22 = 1 := by rw [ex_22]; exact f_X6_in_b ((p3).toInt64) (0 : Int64) (1000000 : Int64)
        refine j0_eq (tgt := 55) hx hb dX6_addServer_48 (by decide) (fun c_23 => ?_) (fun c_23 => ?_)
        · have hv := hv.trans (if_pos c_23)
          refine lv_iconst (v := 0) hx hb dX6_addServer_55 (by decide) ?_
          refine lv_istore (lv' := [(5, .int (0 : Int32)), (0, .ref (ad (0))), (1, .int p0), (2, .int p1), (3, .int p2), (4, .int p3)]) hx hb dX6_addServer_56 hl (by decide) rfl (fun ls hl => ?_)
          refine lv_aload_n hx hb dX6_addServer_58 rfl (lv_at hl 1 rfl) ?_
          refine lv_iload hx hb dX6_addServer_59 (lv_at hl 0 rfl) ?_
          refine j0_ne (tgt := 68) hx hb dX6_addServer_61 (by decide) (fun _ => ?_) (fun c_24 => absurd (by decide) c_24)
          refine lv_iconst (v := 1) hx hb dX6_addServer_64 (by decide) ?_
          refine lv_goto (tgt := 82) hx hb dX6_addServer_65 (by decide) ?_
          refine kVi hx hb hml hown hts hK hP hS hA (As := [.int (1 : Int32)]) (rest := []) (c_X6_refused l dC dI cA ad hI M  (1 : Int32) hw0 ) (mkV hts q_913 q_53 q_910 q_912 q_24 hyX6_refused rfl rfl ⟨(Nat.le_of_ble_eq_true rfl), (Nat.le_of_ble_eq_true rfl)⟩) (w_recv hK hP (k := 0) (by decide) lyM0 (q := (RX6, TX6, 26)) rfl) rfl hl.1 rfl (Nat.le_of_ble_eq_true rfl) dX6_addServer_82 ⟨(Nat.le_of_ble_eq_true rfl), (Nat.le_of_ble_eq_true rfl)⟩ (fun r u H locs hw hP hS _ _ => ?_)
          obtain ⟨M_25, eM_25⟩ : ∃ z, z = u := ⟨_, rfl⟩
          rw [← eM_25] at hP hw
          obtain ⟨r_26, er_26⟩ : ∃ z, z = r := ⟨_, rfl⟩
          rw [← er_26] at hw
          refine w_eqi er_26.symm ?_
          obtain ⟨hw, wM_25⟩ := hw
          have gM_25 := hw
          have ssM_25 : sn M_25 = sn M := congrArg (fun z : Int32 × Mem => sn z.2) hw
          have hv := bnd2_name hv hw
          have lr_26 : r_26 = 1 := congrArg Prod.fst hw
          refine w_eqi lr_26 ?_
          refine j0_eq (tgt := 90) hx hb dX6_addServer_85 (by decide) (fun c_28 => absurd c_28 (by decide)) (fun _ => ?_)
          refine lv_iconst (v := 0) hx hb dX6_addServer_88 (by decide) ?_
          exact W.iret (v := (0 : Int32)) hx hb hr (fun t ht hW => ⟨⟨_, M_25, rfl, ⟨hv.symm.trans eV, wM_25⟩, by rw [ht]; exact hP, va_K.moved hW.alike hK⟩, hS.F ht⟩) hS.2.2 dX6_addServer_89
        · have hv := hv.trans (if_neg c_23)
          refine lv_iconst (v := 1) hx hb dX6_addServer_51 (by decide) ?_
          refine lv_goto (tgt := 56) hx hb dX6_addServer_52 (by decide) ?_
          refine lv_istore (lv' := [(5, .int (1 : Int32)), (0, .ref (ad (0))), (1, .int p0), (2, .int p1), (3, .int p2), (4, .int p3)]) hx hb dX6_addServer_56 hl (by decide) rfl (fun ls hl => ?_)
          refine lv_aload_n hx hb dX6_addServer_58 rfl (lv_at hl 1 rfl) ?_
          refine lv_iload hx hb dX6_addServer_59 (lv_at hl 0 rfl) ?_
          refine j0_ne (tgt := 68) hx hb dX6_addServer_61 (by decide) (fun c_29 => absurd c_29 (by decide)) (fun _ => ?_)
          refine lv_aload_n hx hb dX6_addServer_68 rfl (lv_at hl 1 rfl) ?_
          refine fg_X6_95 hx hb hts hK hP hown dX6_addServer_69 ?_
          have q_30 := (WFs hw0).1
          refine w_eqi (y := nI (sn M)) (WFs hw0).2 ?_
          refine lv_bipush (v := 8) hx hb dX6_addServer_72 (by decide) ?_
          refine jI_ne (tgt := 81) hx hb dX6_addServer_74 (by decide) (fun c_31 => ?_) (fun c_31 => ?_)
          · have hv := hv.trans (if_pos c_31)
            have hc_31 : sn M = 8 := (nI_eq (b := 8) (by omega) (by decide)).mp c_31
            refine lv_iconst (v := 2) hx hb dX6_addServer_77 (by decide) ?_
            refine lv_goto (tgt := 82) hx hb dX6_addServer_78 (by decide) ?_
            refine kVi hx hb hml hown hts hK hP hS hA (As := [.int (2 : Int32)]) (rest := []) (c_X6_refused l dC dI cA ad hI M  (2 : Int32) hw0 ) (mkV hts q_913 q_53 q_910 q_912 q_24 hyX6_refused rfl rfl ⟨(Nat.le_of_ble_eq_true rfl), (Nat.le_of_ble_eq_true rfl)⟩) (w_recv hK hP (k := 0) (by decide) lyM0 (q := (RX6, TX6, 26)) rfl) rfl hl.1 rfl (Nat.le_of_ble_eq_true rfl) dX6_addServer_82 ⟨(Nat.le_of_ble_eq_true rfl), (Nat.le_of_ble_eq_true rfl)⟩ (fun r u H locs hw hP hS _ _ => ?_)
            obtain ⟨M_32, eM_32⟩ : ∃ z, z = u := ⟨_, rfl⟩
            rw [← eM_32] at hP hw
            obtain ⟨r_33, er_33⟩ : ∃ z, z = r := ⟨_, rfl⟩
            rw [← er_33] at hw
            refine w_eqi er_33.symm ?_
            obtain ⟨hw, wM_32⟩ := hw
            have gM_32 := hw
            have ssM_32 : sn M_32 = sn M := congrArg (fun z : Int32 × Mem => sn z.2) hw
            have hv := bnd2_name hv hw
            have lr_33 : r_33 = 1 := congrArg Prod.fst hw
            refine w_eqi lr_33 ?_
            refine j0_eq (tgt := 90) hx hb dX6_addServer_85 (by decide) (fun c_35 => absurd c_35 (by decide)) (fun _ => ?_)
            refine lv_iconst (v := 0) hx hb dX6_addServer_88 (by decide) ?_
            exact W.iret (v := (0 : Int32)) hx hb hr (fun t ht hW => ⟨⟨_, M_32, rfl, ⟨hv.symm.trans eV, wM_32⟩, by rw [ht]; exact hP, va_K.moved hW.alike hK⟩, hS.F ht⟩) hS.2.2 dX6_addServer_89
          · have hv := hv.trans (if_neg c_31)
            have hc_31 : ¬ sn M = 8 := fun h => c_31 (by rw [h]; rfl)
            refine lv_iconst (v := 0) hx hb dX6_addServer_81 (by decide) ?_
            refine kVi hx hb hml hown hts hK hP hS hA (As := [.int (0 : Int32)]) (rest := []) (c_X6_refused l dC dI cA ad hI M  (0 : Int32) hw0 ) (mkV hts q_913 q_53 q_910 q_912 q_24 hyX6_refused rfl rfl ⟨(Nat.le_of_ble_eq_true rfl), (Nat.le_of_ble_eq_true rfl)⟩) (w_recv hK hP (k := 0) (by decide) lyM0 (q := (RX6, TX6, 26)) rfl) rfl hl.1 rfl (Nat.le_of_ble_eq_true rfl) dX6_addServer_82 ⟨(Nat.le_of_ble_eq_true rfl), (Nat.le_of_ble_eq_true rfl)⟩ (fun r u H locs hw hP hS _ _ => ?_)
            obtain ⟨M_36, eM_36⟩ : ∃ z, z = u := ⟨_, rfl⟩
            rw [← eM_36] at hP hw
            obtain ⟨r_37, er_37⟩ : ∃ z, z = r := ⟨_, rfl⟩
            rw [← er_37] at hw
            refine w_eqi er_37.symm ?_
            obtain ⟨hw, wM_36⟩ := hw
            have gM_36 := hw
            have ssM_36 : sn M_36 = sn M := congrArg (fun z : Int32 × Mem => sn z.2) hw
            have hv := bnd2_name hv hw
            have lr_37 : r_37 = 0 := congrArg Prod.fst hw
            refine w_eqi lr_37 ?_
            refine j0_eq (tgt := 90) hx hb dX6_addServer_85 (by decide) (fun _ => ?_) (fun c_39 => absurd (by decide) c_39)
            refine lv_aload_n hx hb dX6_addServer_90 rfl (lv_at hl 1 rfl) ?_
            refine fg_X6_17 hx hb hts hK hP hown dX6_addServer_91 ?_
            refine lv_aload_n hx hb dX6_addServer_94 rfl (lv_at hl 1 rfl) ?_
            refine fg_X6_95 hx hb hts hK hP hown dX6_addServer_95 ?_
            have q_40 := (WFs wM_36).1
            refine w_eqi (y := nI (sn M_36)) (WFs wM_36).2 ?_
            refine lv_iload_n hx hb dX6_addServer_98 rfl (lv_at hl 2 rfl) ?_
            refine w_iastN hx hb hK hP hI hS hA (k := 2) (by decide) lyM2 uAM2 (i := sn M_36) (by omega) (by decide) dX6_addServer_99 (fun H locs hP hS => ?_)
            obtain ⟨M_41, eM_41⟩ : ∃ z : Mem, z = sB M_36 1 (upd (gB M_36 1) (sn M_36) p0) := ⟨_, rfl⟩
            rw [← eM_41] at hP
            have hv := bnd_name hv eM_41
            have wM_41 : WFm M_41 := by rw [eM_41]; exact WFm_sB wM_36 (by decide)
            have ssM_41 : sn M_41 = sn M_36 := by rw [eM_41]; rfl
            refine lv_aload_n hx hb dX6_addServer_100 rfl (lv_at hl 1 rfl) ?_
            refine fg_X6_20 hx hb hts hK hP hown dX6_addServer_101 ?_
            refine lv_aload_n hx hb dX6_addServer_104 rfl (lv_at hl 1 rfl) ?_
            refine fg_X6_95 hx hb hts hK hP hown dX6_addServer_105 ?_
            have q_42 := (WFs wM_41).1
            refine w_eqi (y := nI (sn M_41)) (WFs wM_41).2 ?_
            refine lv_iload_n hx hb dX6_addServer_108 rfl (lv_at hl 3 rfl) ?_
            refine w_iastN hx hb hK hP hI hS hA (k := 3) (by decide) lyM3 uAM3 (i := sn M_41) (by omega) (by decide) dX6_addServer_109 (fun H locs hP hS => ?_)
            obtain ⟨M_43, eM_43⟩ : ∃ z : Mem, z = sB M_41 2 (upd (gB M_41 2) (sn M_41) p1) := ⟨_, rfl⟩
            rw [← eM_43] at hP
            have hv := bnd_name hv eM_43
            have wM_43 : WFm M_43 := by rw [eM_43]; exact WFm_sB wM_41 (by decide)
            have ssM_43 : sn M_43 = sn M_41 := by rw [eM_43]; rfl
            refine lv_aload_n hx hb dX6_addServer_110 rfl (lv_at hl 1 rfl) ?_
            refine fg_X6_23 hx hb hts hK hP hown dX6_addServer_111 ?_
            refine lv_aload_n hx hb dX6_addServer_114 rfl (lv_at hl 1 rfl) ?_
            refine fg_X6_95 hx hb hts hK hP hown dX6_addServer_115 ?_
            have q_44 := (WFs wM_43).1
            refine w_eqi (y := nI (sn M_43)) (WFs wM_43).2 ?_
            refine lv_iload_n hx hb dX6_addServer_118 rfl (lv_at hl 4 rfl) ?_
            refine w_iastN hx hb hK hP hI hS hA (k := 4) (by decide) lyM4 uAM4 (i := sn M_43) (by omega) (by decide) dX6_addServer_119 (fun H locs hP hS => ?_)
            obtain ⟨M_45, eM_45⟩ : ∃ z : Mem, z = sB M_43 3 (upd (gB M_43 3) (sn M_43) p2) := ⟨_, rfl⟩
            rw [← eM_45] at hP
            have hv := bnd_name hv eM_45
            have wM_45 : WFm M_45 := by rw [eM_45]; exact WFm_sB wM_43 (by decide)
            have ssM_45 : sn M_45 = sn M_43 := by rw [eM_45]; rfl
            refine lv_aload_n hx hb dX6_addServer_120 rfl (lv_at hl 1 rfl) ?_
            refine fg_X6_26 hx hb hts hK hP hown dX6_addServer_121 ?_
            refine lv_aload_n hx hb dX6_addServer_124 rfl (lv_at hl 1 rfl) ?_
            refine fg_X6_95 hx hb hts hK hP hown dX6_addServer_125 ?_
            have q_46 := (WFs wM_45).1
            refine w_eqi (y := nI (sn M_45)) (WFs wM_45).2 ?_
            refine lv_iload hx hb dX6_addServer_128 (lv_at hl 5 rfl) ?_
            refine w_iastN hx hb hK hP hI hS hA (k := 5) (by decide) lyM5 uAM5 (i := sn M_45) (by omega) (by decide) dX6_addServer_130 (fun H locs hP hS => ?_)
            obtain ⟨M_47, eM_47⟩ : ∃ z : Mem, z = sB M_45 4 (upd (gB M_45 4) (sn M_45) p3) := ⟨_, rfl⟩
            rw [← eM_47] at hP
            have hv := bnd_name hv eM_47
            have wM_47 : WFm M_47 := by rw [eM_47]; exact WFm_sB wM_45 (by decide)
            have ssM_47 : sn M_47 = sn M_45 := by rw [eM_47]; rfl
            refine lv_aload_n hx hb dX6_addServer_131 rfl (lv_at hl 1 rfl) ?_
            refine fg_X6_29 hx hb hts hK hP hown dX6_addServer_132 ?_
            refine lv_aload_n hx hb dX6_addServer_135 rfl (lv_at hl 1 rfl) ?_
            refine fg_X6_95 hx hb hts hK hP hown dX6_addServer_136 ?_
            have q_48 := (WFs wM_47).1
            refine w_eqi (y := nI (sn M_47)) (WFs wM_47).2 ?_
            refine lv_iconst (v := 0) hx hb dX6_addServer_139 (by decide) ?_
            refine w_iastN hx hb hK hP hI hS hA (k := 6) (by decide) lyM6 uAM6 (i := sn M_47) (by omega) (by decide) dX6_addServer_140 (fun H locs hP hS => ?_)
            obtain ⟨M_49, eM_49⟩ : ∃ z : Mem, z = sB M_47 5 (upd (gB M_47 5) (sn M_47) (0 : Int32)) := ⟨_, rfl⟩
            rw [← eM_49] at hP
            have hv := bnd_name hv eM_49
            have wM_49 : WFm M_49 := by rw [eM_49]; exact WFm_k (0) wM_47 (by omega) rfl
            have ssM_49 : sn M_49 = sn M_47 := by rw [eM_49]; rfl
            refine lv_aload_n hx hb dX6_addServer_141 rfl (lv_at hl 1 rfl) ?_
            refine lv_dup hx hb dX6_addServer_142 rfl ?_
            refine fg_X6_95 hx hb hts hK hP hown dX6_addServer_143 ?_
            have q_50 := (WFs wM_49).1
            refine w_eqi (y := nI (sn M_49)) (WFs wM_49).2 ?_
            refine lv_iconst (v := 1) hx hb dX6_addServer_146 (by decide) ?_
            refine lv_iadd hx hb dX6_addServer_147 ?_
            refine w_eqi (y := nI ((sn M_49) + 1)) (nI_add (sn M_49) 1) ?_
            refine fp_X6_95 hx hb hts hK hP hI hS hA hown dX6_addServer_148 (fun H locs hP hS => ?_)
            obtain ⟨M_51, eM_51⟩ : ∃ z : Mem, z = sI M_49 (6) (nI ((sn M_49) + 1)) := ⟨_, rfl⟩
            rw [← eM_51] at hP
            have hv := bnd_name hv eM_51
            have wM_51 : WFm M_51 := by rw [eM_51]; exact WFm_srv ((sn M_49) + 1) wM_49 (by omega) rfl
            have ssM_51 : sn M_51 = (sn M_49) + 1 := by rw [eM_51]; exact sn_sI (by omega) rfl
            refine lv_aload_n hx hb dX6_addServer_151 rfl (lv_at hl 1 rfl) ?_
            refine fg_X6_95 hx hb hts hK hP hown dX6_addServer_152 ?_
            have q_52 := (WFs wM_51).1
            refine w_eqi (y := nI (sn M_51)) (WFs wM_51).2 ?_
            refine lv_iconst (v := 1) hx hb dX6_addServer_155 (by decide) ?_
            refine lv_isub hx hb dX6_addServer_156 ?_
            refine w_eqi (y := nI ((sn M_51) - 1)) (pk_sub (a := (sn M_51)) (b := 1) (by omega)) ?_
            exact W.iret (v := nI ((sn M_51) - 1)) hx hb hr (fun t ht hW => ⟨⟨_, M_51, rfl, ⟨hv.symm.trans eV, wM_51⟩, by rw [ht]; exact hP, va_K.moved hW.alike hK⟩, hS.F ht⟩) hS.2.2 dX6_addServer_157
def f_X6_isServer (M : Mem) (p0 : Int32) : Int32 := bnd ((f_X6_in ((p0).toInt64) (0 : Int64) ((nI (sn M)).toInt64 - (1 : Int64)))) fun x_2 => x_2
theorem hyX6_isServer : yX6_isServer.cls ≠ "java/lang/invoke/MethodHandle" ∧ yX6_isServer.cls ≠ "java/lang/invoke/VarHandle" ∧ (parseMethodDescriptor yX6_isServer.desc).map (fun d => d.parameters.length) = some 1 := by decide +kernel
set_option maxHeartbeats 4000000 in
set_option maxRecDepth 100000 in
theorem c_X6_isServer (l : Launch) (dC : Nat → ClassId) (dI : Nat → Nat → Nat) (cA : Nat → ClassId) (ad : Nat → Nat) (hI : Inj 12 ad) (M : Mem) (p0 : Int32) (hw0 : WFm M)  : Met l yX6_isServer (.code yX6_isServer cX6_isServer 2 (some .boolean) :: AG) ({ frames := 1, cells := 0, slots := 0, locals := 25 } : Room) (va_Pc [.ref (ad (0)), .int p0] (PM dC dI cA ad M)) (va_Qi (fun r u => r = f_X6_isServer M p0 ∧ u = M) (PM dC dI cA ad) (adS 12 ad)) 0 0 (adS 12 ad) := by
  refine cMet (by decide) (Nat.le_of_ble_eq_true rfl) ?_
  intro p e s m below meth c ls hx hb hr hml hlocks hown hts hK hP hS hl
  have hA : ∀ q, adS 12 ad q → adS 12 ad q := fun _ h => h
  have hl : lv_has ls 2 [(0, .ref (ad (0))), (1, .int p0)] := hl
  obtain ⟨V, eV⟩ : ∃ z, z = f_X6_isServer M p0 := ⟨_, rfl⟩
  have hv := eV
  unfold f_X6_isServer at hv
  refine lv_iload_n hx hb dX6_isServer_0 rfl (lv_at hl 1 rfl) ?_
  refine lv_i2l (v := (p0).toInt64) hx hb dX6_isServer_1 rfl ?_
  refine lv_lconst (v := 0) hx hb dX6_isServer_2 (by decide) ?_
  refine lv_aload_n hx hb dX6_isServer_3 rfl (lv_at hl 0 rfl) ?_
  refine fg_X6_95 hx hb hts hK hP hown dX6_isServer_4 ?_
  have q_1 := (WFs hw0).1
  refine w_eqi (y := nI (sn M)) (WFs hw0).2 ?_
  refine lv_i2l (v := (nI (sn M)).toInt64) hx hb dX6_isServer_7 rfl ?_
  refine lv_lconst (v := 1) hx hb dX6_isServer_8 (by decide) ?_
  refine lv_lsub hx hb dX6_isServer_9 ?_
  refine kSi hx hb hml hown hts (As := [.long ((p0).toInt64), .long (0 : Int64), .long ((nI (sn M)).toInt64 - (1 : Int64))]) (rest := []) (c_X6_in l ((p0).toInt64) (0 : Int64) ((nI (sn M)).toInt64 - (1 : Int64)) ) (mkS hts q_909 q_53 q_907 q_908 hyX6_in rfl rfl ⟨(Nat.le_of_ble_eq_true rfl), (Nat.le_of_ble_eq_true rfl)⟩) rfl hl.1 rfl (Nat.le_of_ble_eq_true rfl) dX6_isServer_10 ⟨(Nat.le_of_ble_eq_true rfl), (Nat.le_of_ble_eq_true rfl)⟩ ?_
  refine lv_topi (fun x_2 ex_2 => ?_)
  have hv := bnd_name hv ex_2
  have bx_2 : x_2 = 0 ∨ x_2 = 1 := by rw [ex_2]; exact f_X6_in_b ((p0).toInt64) (0 : Int64) ((nI (sn M)).toInt64 - (1 : Int64))
  exact W.zret (v := x_2) hx hb hr (nar_b bx_2) (fun t ht hW => ⟨⟨_, M, rfl, ⟨hv.symm.trans eV, rfl⟩, by rw [ht]; exact hP, va_K.moved hW.alike hK⟩, hS.F ht⟩) hS.2.2 dX6_isServer_13
theorem srv_of {M : Mem} {x : Int32} (w : WFm M) (h : ¬ f_X6_isServer M x = 0) : ∃ j, (j < 8 ∧ j < sn M) ∧ x = nI j := by
  unfold f_X6_isServer at h
  have h' : ¬ f_X6_in x.toInt64 0 ((nI (sn M)).toInt64 - 1) = 0 := h
  have hs := (WFs w).1
  rw [nI_l (by omega)] at h'
  by_cases h0 : sn M = 0
  · exfalso
    obtain ⟨h1, h2⟩ := f_X6_in_pos h'
    rw [h0] at h2
    rw [Int64.lt_iff_toInt_lt] at h1 h2
    have e0 : (0 : Int64).toInt = 0 := by decide
    have e1 : (lN 0 - 1).toInt = -1 := by decide
    omega
  · rw [show lN (sn M) - 1 = lN (sn M - 1) from lN_sub (b := 1) (by omega)] at h'
    obtain ⟨j, hj, e⟩ := in_rng (n := sn M - 1) (by omega) h'
    exact ⟨j, ⟨by omega, by omega⟩, e⟩
theorem f_X6_isServer_b (M : Mem) (p0 : Int32) : (f_X6_isServer M p0) = 0 ∨ (f_X6_isServer M p0) = 1 := by
  unfold f_X6_isServer
  repeat' (first | with_reducible refine bnd_id (by apply f_X6_in_b) | with_reducible refine bnd_or (fun _ => ?_) | with_reducible refine bnd2_or (fun _ _ => ?_) | with_reducible refine ite_or ?_ ?_ | exact Or.inl rfl | exact Or.inr rfl)
def f_X6_setError (M : Mem) (p0 : Int32) (p1 : Int32) : Int32 × Mem := bnd (f_X6_isServer M  p0) fun r_1 => if r_1 = (0 : Int32) then bnd2 (f_X6_refused M  (1 : Int32)) fun r_4 M_3 => ((0 : Int32), M_3) else bnd ((f_X6_in ((p1).toInt64) ((-1000000) : Int64) (1000000 : Int64))) fun x_7 => if x_7 = (0 : Int32) then bnd2 (f_X6_refused M  (2 : Int32)) fun r_10 M_9 => ((0 : Int32), M_9) else bnd2 (f_X6_refused M  (0 : Int32)) fun r_14 M_13 => bnd ((p0).toNatClampNeg) fun j0 => bnd (gB M_13 2 (j0)) fun x_17 => bnd (sB M_13 2 (upd (gB M_13 2) (j0) p1)) fun M_18 => (x_17, M_18)
theorem hyX6_setError : yX6_setError.cls ≠ "java/lang/invoke/MethodHandle" ∧ yX6_setError.cls ≠ "java/lang/invoke/VarHandle" ∧ (parseMethodDescriptor yX6_setError.desc).map (fun d => d.parameters.length) = some 2 := by decide +kernel
set_option maxHeartbeats 4000000 in
set_option maxRecDepth 100000 in
theorem c_X6_setError (l : Launch) (dC : Nat → ClassId) (dI : Nat → Nat → Nat) (cA : Nat → ClassId) (ad : Nat → Nat) (hI : Inj 12 ad) (M : Mem) (p0 : Int32) (p1 : Int32) (hw0 : WFm M)  : Met l yX6_setError (.code yX6_setError cX6_setError 4 (some .int) :: AG) ({ frames := 2, cells := 0, slots := 0, locals := 46 } : Room) (va_Pc [.ref (ad (0)), .int p0, .int p1] (PM dC dI cA ad M)) (va_Qi (fun r u => (r, u) = f_X6_setError M p0 p1 ∧ WFm u) (PM dC dI cA ad) (adS 12 ad)) 0 0 (adS 12 ad) := by
  refine cMet (by decide) (Nat.le_of_ble_eq_true rfl) ?_
  intro p e s m below meth c ls hx hb hr hml hlocks hown hts hK hP hS hl
  have hA : ∀ q, adS 12 ad q → adS 12 ad q := fun _ h => h
  have hl : lv_has ls 4 [(0, .ref (ad (0))), (1, .int p0), (2, .int p1)] := hl
  obtain ⟨V, eV⟩ : ∃ z, z = f_X6_setError M p0 p1 := ⟨_, rfl⟩
  have hv := eV
  unfold f_X6_setError at hv
  refine lv_aload_n hx hb dX6_setError_0 rfl (lv_at hl 0 rfl) ?_
  refine lv_aload_n hx hb dX6_setError_1 rfl (lv_at hl 0 rfl) ?_
  refine lv_iload_n hx hb dX6_setError_2 rfl (lv_at hl 1 rfl) ?_
  refine kVi hx hb hml hown hts hK hP hS hA (As := [.int p0]) (rest := [.ref (ad (0))]) (c_X6_isServer l dC dI cA ad hI M  p0 hw0 ) (mkV hts q_994 q_53 q_991 q_993 q_29 hyX6_isServer rfl rfl ⟨(Nat.le_of_ble_eq_true rfl), (Nat.le_of_ble_eq_true rfl)⟩) (w_recv hK hP (k := 0) (by decide) lyM0 (q := (RX6, TX6, 26)) rfl) rfl hl.1 rfl (Nat.le_of_ble_eq_true rfl) dX6_setError_3 ⟨(Nat.le_of_ble_eq_true rfl), (Nat.le_of_ble_eq_true rfl)⟩ (fun r u H locs hw hP hS _ _ => ?_)
  obtain ⟨hw, hu⟩ := hw
  rw [hu] at hP
  have hv := bnd_name hv hw
  obtain ⟨r_1, er_1⟩ : ∃ z, z = r := ⟨_, rfl⟩
  rw [← er_1] at hv hw
  refine w_eqi er_1.symm ?_
  have gr_1 := hw
  have br_1 : r_1 = 0 ∨ r_1 = 1 := by rw [hw]; exact f_X6_isServer_b M  p0
  refine j0_ne (tgt := 13) hx hb dX6_setError_6 (by decide) (fun c_2 => ?_) (fun c_2 => ?_)
  · have hv := hv.trans (if_pos c_2)
    refine lv_iconst (v := 1) hx hb dX6_setError_9 (by decide) ?_
    refine lv_goto (tgt := 32) hx hb dX6_setError_10 (by decide) ?_
    refine kVi hx hb hml hown hts hK hP hS hA (As := [.int (1 : Int32)]) (rest := []) (c_X6_refused l dC dI cA ad hI M  (1 : Int32) hw0 ) (mkV hts q_913 q_53 q_910 q_912 q_24 hyX6_refused rfl rfl ⟨(Nat.le_of_ble_eq_true rfl), (Nat.le_of_ble_eq_true rfl)⟩) (w_recv hK hP (k := 0) (by decide) lyM0 (q := (RX6, TX6, 26)) rfl) rfl hl.1 rfl (Nat.le_of_ble_eq_true rfl) dX6_setError_32 ⟨(Nat.le_of_ble_eq_true rfl), (Nat.le_of_ble_eq_true rfl)⟩ (fun r u H locs hw hP hS _ _ => ?_)
    obtain ⟨M_3, eM_3⟩ : ∃ z, z = u := ⟨_, rfl⟩
    rw [← eM_3] at hP hw
    obtain ⟨r_4, er_4⟩ : ∃ z, z = r := ⟨_, rfl⟩
    rw [← er_4] at hw
    refine w_eqi er_4.symm ?_
    obtain ⟨hw, wM_3⟩ := hw
    have gM_3 := hw
    have hv := bnd2_name hv hw
    have lr_4 : r_4 = 1 := congrArg Prod.fst hw
    refine w_eqi lr_4 ?_
    refine j0_eq (tgt := 40) hx hb dX6_setError_35 (by decide) (fun c_6 => absurd c_6 (by decide)) (fun _ => ?_)
    refine lv_iconst (v := 0) hx hb dX6_setError_38 (by decide) ?_
    exact W.iret (v := (0 : Int32)) hx hb hr (fun t ht hW => ⟨⟨_, M_3, rfl, ⟨hv.symm.trans eV, wM_3⟩, by rw [ht]; exact hP, va_K.moved hW.alike hK⟩, hS.F ht⟩) hS.2.2 dX6_setError_39
  · have hv := hv.trans (if_neg c_2)
    refine lv_iload_n hx hb dX6_setError_13 rfl (lv_at hl 2 rfl) ?_
    refine lv_i2l (v := (p1).toInt64) hx hb dX6_setError_14 rfl ?_
    refine lv_ldc2 (v := (-1000000)) hx hb hown (hts _ q_986) dX6_setError_15 ?_
    refine lv_ldc2 (v := 1000000) hx hb hown (hts _ q_914) dX6_setError_18 ?_
    refine kSi hx hb hml hown hts (As := [.long ((p1).toInt64), .long ((-1000000) : Int64), .long (1000000 : Int64)]) (rest := [.ref (ad (0))]) (c_X6_in l ((p1).toInt64) ((-1000000) : Int64) (1000000 : Int64) ) (mkS hts q_909 q_53 q_907 q_908 hyX6_in rfl rfl ⟨(Nat.le_of_ble_eq_true rfl), (Nat.le_of_ble_eq_true rfl)⟩) rfl hl.1 rfl (Nat.le_of_ble_eq_true rfl) dX6_setError_21 ⟨(Nat.le_of_ble_eq_true rfl), (Nat.le_of_ble_eq_true rfl)⟩ ?_
    refine lv_topi (fun x_7 ex_7 => ?_)
    have hv := bnd_name hv ex_7
    have bx_7 : x_7 = 0 ∨ x_7 = 1 := by rw [ex_7]; exact f_X6_in_b ((p1).toInt64) ((-1000000) : Int64) (1000000 : Int64)
    refine j0_eq (tgt := 31) hx hb dX6_setError_24 (by decide) (fun c_8 => ?_) (fun c_8 => ?_)
    · have hv := hv.trans (if_pos c_8)
      refine lv_iconst (v := 2) hx hb dX6_setError_31 (by decide) ?_
      refine kVi hx hb hml hown hts hK hP hS hA (As := [.int (2 : Int32)]) (rest := []) (c_X6_refused l dC dI cA ad hI M  (2 : Int32) hw0 ) (mkV hts q_913 q_53 q_910 q_912 q_24 hyX6_refused rfl rfl ⟨(Nat.le_of_ble_eq_true rfl), (Nat.le_of_ble_eq_true rfl)⟩) (w_recv hK hP (k := 0) (by decide) lyM0 (q := (RX6, TX6, 26)) rfl) rfl hl.1 rfl (Nat.le_of_ble_eq_true rfl) dX6_setError_32 ⟨(Nat.le_of_ble_eq_true rfl), (Nat.le_of_ble_eq_true rfl)⟩ (fun r u H locs hw hP hS _ _ => ?_)
      obtain ⟨M_9, eM_9⟩ : ∃ z, z = u := ⟨_, rfl⟩
      rw [← eM_9] at hP hw
      obtain ⟨r_10, er_10⟩ : ∃ z, z = r := ⟨_, rfl⟩
      rw [← er_10] at hw
      refine w_eqi er_10.symm ?_
      obtain ⟨hw, wM_9⟩ := hw
      have gM_9 := hw
      have hv := bnd2_name hv hw
      have lr_10 : r_10 = 1 := congrArg Prod.fst hw
      refine w_eqi lr_10 ?_
      refine j0_eq (tgt := 40) hx hb dX6_setError_35 (by decide) (fun c_12 => absurd c_12 (by decide)) (fun _ => ?_)
      refine lv_iconst (v := 0) hx hb dX6_setError_38 (by decide) ?_
      exact W.iret (v := (0 : Int32)) hx hb hr (fun t ht hW => ⟨⟨_, M_9, rfl, ⟨hv.symm.trans eV, wM_9⟩, by rw [ht]; exact hP, va_K.moved hW.alike hK⟩, hS.F ht⟩) hS.2.2 dX6_setError_39
    · have hv := hv.trans (if_neg c_8)
      refine lv_iconst (v := 0) hx hb dX6_setError_27 (by decide) ?_
      refine lv_goto (tgt := 32) hx hb dX6_setError_28 (by decide) ?_
      refine kVi hx hb hml hown hts hK hP hS hA (As := [.int (0 : Int32)]) (rest := []) (c_X6_refused l dC dI cA ad hI M  (0 : Int32) hw0 ) (mkV hts q_913 q_53 q_910 q_912 q_24 hyX6_refused rfl rfl ⟨(Nat.le_of_ble_eq_true rfl), (Nat.le_of_ble_eq_true rfl)⟩) (w_recv hK hP (k := 0) (by decide) lyM0 (q := (RX6, TX6, 26)) rfl) rfl hl.1 rfl (Nat.le_of_ble_eq_true rfl) dX6_setError_32 ⟨(Nat.le_of_ble_eq_true rfl), (Nat.le_of_ble_eq_true rfl)⟩ (fun r u H locs hw hP hS _ _ => ?_)
      obtain ⟨M_13, eM_13⟩ : ∃ z, z = u := ⟨_, rfl⟩
      rw [← eM_13] at hP hw
      obtain ⟨r_14, er_14⟩ : ∃ z, z = r := ⟨_, rfl⟩
      rw [← er_14] at hw
      refine w_eqi er_14.symm ?_
      obtain ⟨hw, wM_13⟩ := hw
      have gM_13 := hw
      have hv := bnd2_name hv hw
      have lr_14 : r_14 = 0 := congrArg Prod.fst hw
      refine w_eqi lr_14 ?_
      refine j0_eq (tgt := 40) hx hb dX6_setError_35 (by decide) (fun _ => ?_) (fun c_16 => absurd (by decide) c_16)
      obtain ⟨j0, hj0, e9⟩ := (srv_of hw0 (by rw [← gr_1]; exact c_2) : ∃ j, _ ∧ p0 = nI j)
      subst e9
      have hv := bnd_name hv (show j0 = (nI j0).toNatClampNeg from (nI_clamp (by omega)).symm)
      refine lv_aload_n hx hb dX6_setError_40 rfl (lv_at hl 0 rfl) ?_
      refine fg_X6_20 hx hb hts hK hP hown dX6_setError_41 ?_
      refine lv_iload_n hx hb dX6_setError_44 rfl (lv_at hl 1 rfl) ?_
      refine w_ialdN hx hb hK hP (k := 3) (by decide) lyM3 (i := j0) (by omega) (by decide) dX6_setError_45 ?_
      refine lv_topi (fun x_17 ex_17 => ?_)
      have hv := bnd_name hv ex_17
      refine lv_istore_n (lv' := [(3, .int x_17), (0, .ref (ad (0))), (1, .int (nI j0)), (2, .int p1)]) hx hb dX6_setError_46 rfl hl (by decide) rfl (fun ls hl => ?_)
      refine lv_aload_n hx hb dX6_setError_47 rfl (lv_at hl 1 rfl) ?_
      refine fg_X6_20 hx hb hts hK hP hown dX6_setError_48 ?_
      refine lv_iload_n hx hb dX6_setError_51 rfl (lv_at hl 2 rfl) ?_
      refine lv_iload_n hx hb dX6_setError_52 rfl (lv_at hl 3 rfl) ?_
      refine w_iastN hx hb hK hP hI hS hA (k := 3) (by decide) lyM3 uAM3 (i := j0) (by omega) (by decide) dX6_setError_53 (fun H locs hP hS => ?_)
      obtain ⟨M_18, eM_18⟩ : ∃ z : Mem, z = sB M_13 2 (upd (gB M_13 2) (j0) p1) := ⟨_, rfl⟩
      rw [← eM_18] at hP
      have hv := bnd_name hv eM_18
      have wM_18 : WFm M_18 := by rw [eM_18]; exact WFm_sB wM_13 (by decide)
      refine lv_iload_n hx hb dX6_setError_54 rfl (lv_at hl 0 rfl) ?_
      exact W.iret (v := x_17) hx hb hr (fun t ht hW => ⟨⟨_, M_18, rfl, ⟨hv.symm.trans eV, wM_18⟩, by rw [ht]; exact hP, va_K.moved hW.alike hK⟩, hS.F ht⟩) hS.2.2 dX6_setError_55
def f_X6_keep_L21 (j0 : Nat) (p1 : Int64) (p2 : Int64) (p3 : Int64) : Nat → Nat → Mem → Mem
  | 0, _, M_21 => M_21
  | r + 1, i, M_21 => if nI i < nI (((8 * j0) + 8) - 1) then bnd (sJ M_21 0 (vp_updL (gJ M_21 0) (i) (gJ M_21 0 (i + 1)))) fun M_4 => bnd (sJ M_4 1 (vp_updL (gJ M_4 1) (i) (gJ M_4 1 (i + 1)))) fun M_5 => bnd (sJ M_5 2 (vp_updL (gJ M_5 2) (i) (gJ M_5 2 (i + 1)))) fun M_6 => f_X6_keep_L21  j0 p1 p2 p3 r (i + 1) M_6  else bnd (sB M_21 5 (upd (gB M_21 5) (j0) (nI ((kn M_21 (j0)) - 1)))) fun M_9 => bnd (sJ M_9 0 (vp_updL (gJ M_9 0) ((8 * j0) + (kn M_9 (j0))) p1)) fun M_11 => bnd (sJ M_11 1 (vp_updL (gJ M_11 1) ((8 * j0) + (kn M_9 (j0))) p2)) fun M_12 => bnd (sJ M_12 2 (vp_updL (gJ M_12 2) ((8 * j0) + (kn M_9 (j0))) p3)) fun M_13 => bnd (sB M_13 5 (upd (gB M_13 5) (j0) (nI ((kn M_13 (j0)) + 1)))) fun M_18 => M_18
def f_X6_keep (M : Mem) (j0 : Nat) (p1 : Int64) (p2 : Int64) (p3 : Int64) : Mem := if nI (kn M (j0)) = (8 : Int32) then f_X6_keep_L21  j0 p1 p2 p3 ((8 * j0 + 8 - 1) + 1 - 8 * j0) (8 * j0) M  else bnd (sJ M 0 (vp_updL (gJ M 0) ((8 * j0) + (kn M (j0))) p1)) fun M_20 => bnd (sJ M_20 1 (vp_updL (gJ M_20 1) ((8 * j0) + (kn M (j0))) p2)) fun M_21 => bnd (sJ M_21 2 (vp_updL (gJ M_21 2) ((8 * j0) + (kn M (j0))) p3)) fun M_22 => bnd (sB M_22 5 (upd (gB M_22 5) (j0) (nI ((kn M_22 (j0)) + 1)))) fun M_27 => M_27
theorem hyX6_keep : yX6_keep.cls ≠ "java/lang/invoke/MethodHandle" ∧ yX6_keep.cls ≠ "java/lang/invoke/VarHandle" ∧ (parseMethodDescriptor yX6_keep.desc).map (fun d => d.parameters.length) = some 4 := by decide +kernel
set_option maxHeartbeats 4000000 in
set_option maxRecDepth 100000 in
theorem c_X6_keep (l : Launch) (dC : Nat → ClassId) (dI : Nat → Nat → Nat) (cA : Nat → ClassId) (ad : Nat → Nat) (hI : Inj 12 ad) (M : Mem) (j0 : Nat) (hj0 : j0 < 8) (p1 : Int64) (p2 : Int64) (p3 : Int64) (hw0 : WFm M)  : Met l yX6_keep (.code yX6_keep cX6_keep 10 none :: AG) ({ frames := 0, cells := 0, slots := 0, locals := 0 } : Room) (va_Pc [.ref (ad (0)), .int (nI j0), .long p1, .long p2, .long p3] (PM dC dI cA ad M)) (va_Qv (fun u => u = f_X6_keep M j0 p1 p2 p3 ∧ WFm u) (PM dC dI cA ad) (adS 12 ad)) 0 0 (adS 12 ad) := by
  refine cMet (by decide) (Nat.le_of_ble_eq_true rfl) ?_
  intro p e s m below meth c ls hx hb hr hml hlocks hown hts hK hP hS hl
  have hA : ∀ q, adS 12 ad q → adS 12 ad q := fun _ h => h
  have hl : lv_has ls 10 [(0, .ref (ad (0))), (1, .int (nI j0)), (2, .long p1), (4, .long p2), (6, .long p3)] := hl
  obtain ⟨V, eV⟩ : ∃ z, z = f_X6_keep M j0 p1 p2 p3 := ⟨_, rfl⟩
  have hv := eV
  unfold f_X6_keep at hv
  refine lv_bipush (v := 8) hx hb dX6_keep_0 (by decide) ?_
  refine lv_iload_n hx hb dX6_keep_2 rfl (lv_at hl 1 rfl) ?_
  refine lv_imul hx hb dX6_keep_3 ?_
  refine w_eqi (y := nI (8 * j0)) (pk_mul 8 j0) ?_
  refine lv_istore (lv' := [(8, .int (nI (8 * j0))), (0, .ref (ad (0))), (1, .int (nI j0)), (2, .long p1), (4, .long p2), (6, .long p3)]) hx hb dX6_keep_4 hl (by decide) rfl (fun ls hl => ?_)
  refine lv_aload_n hx hb dX6_keep_6 rfl (lv_at hl 1 rfl) ?_
  refine fg_X6_29 hx hb hts hK hP hown dX6_keep_7 ?_
  refine lv_iload_n hx hb dX6_keep_10 rfl (lv_at hl 2 rfl) ?_
  refine w_ialdN hx hb hK hP (k := 6) (by decide) lyM6 (i := j0) (by omega) (by decide) dX6_keep_11 ?_
  have q_1 := (WFk hw0 (j := j0) (by omega)).1
  refine w_eqi (y := nI (kn M (j0))) (WFk hw0 (j := j0) (by omega)).2 ?_
  refine lv_bipush (v := 8) hx hb dX6_keep_12 (by decide) ?_
  refine jI_ne (tgt := 97) hx hb dX6_keep_14 (by decide) (fun c_2 => ?_) (fun c_2 => ?_)
  · have hv := hv.trans (if_pos c_2)
    have hc_2 : kn M (j0) = 8 := (nI_eq (b := 8) (by omega) (by decide)).mp c_2
    refine lv_iload hx hb dX6_keep_17 (lv_at hl 0 rfl) ?_
    refine lv_istore (lv' := [(9, .int (nI (8 * j0))), (8, .int (nI (8 * j0))), (0, .ref (ad (0))), (1, .int (nI j0)), (2, .long p1), (4, .long p2), (6, .long p3)]) hx hb dX6_keep_19 hl (by decide) rfl (fun ls hl => ?_)
    have L21 : ∀ (r i : Nat) (M_21 : Mem) (H : Heap) (locs : List Loc) (ls : Array Slot), i + r = (8 * j0 + 8 - 1) + 1 → i ≤ (8 * j0 + 8 - 1) → (∀ j, kn M_21 j = kn M j) → (WFm M_21) → V = f_X6_keep_L21  j0 p1 p2 p3 r i M_21  → va_P (dC, dI) vwCl (wld 12 layM cA ad M_21) H → va_S (adS 12 ad) s.heap H locs → lv_has ls 10 [(9, .int (nI i)), (8, .int (nI (8 * j0))), (0, .ref (ad (0))), (1, .int (nI j0)), (2, .long p1), (4, .long p2), (6, .long p3)] → W p l e ({ frames := 0, cells := 0, slots := 0, locals := 0 } : Room) s m ([.ref (ad (0)), .int (nI j0), .long p1, .long p2, .long p3] : List Value).toArray below meth c H locs 0 0 (MQ below (va_Qv (fun u => u = f_X6_keep M j0 p1 p2 p3 ∧ WFm u) (PM dC dI cA ad) (adS 12 ad)) ([.ref (ad (0)), .int (nI j0), .long p1, .long p2, .long p3] : List Value).toArray s 0 0 (adS 12 ad)) (F0 m 21 ls []) := by
      intro r
      induction r with
      | zero =>
        intro i M_21 H locs ls hir hib
        omega
      | succ r ih =>
        intro i M_21 H locs ls hir hib hx0_21 hx1_21 hv hP hS hl
        rw [f_X6_keep_L21] at hv
        refine lv_iload hx hb dX6_keep_21 (lv_at hl 0 rfl) ?_
        refine lv_iload hx hb dX6_keep_23 (lv_at hl 1 rfl) ?_
        refine lv_bipush (v := 8) hx hb dX6_keep_25 (by decide) ?_
        refine lv_iadd hx hb dX6_keep_27 ?_
        refine w_eqi (y := nI ((8 * j0) + 8)) (nI_add (8 * j0) 8) ?_
        refine lv_iconst (v := 1) hx hb dX6_keep_28 (by decide) ?_
        refine lv_isub hx hb dX6_keep_29 ?_
        refine w_eqi (y := nI (((8 * j0) + 8) - 1)) (pk_sub (a := ((8 * j0) + 8)) (b := 1) (by omega)) ?_
        refine jI_ge (tgt := 87) hx hb dX6_keep_30 (by decide) (fun c_3 => ?_) (fun c_3 => ?_)
        · have hv := hv.trans (if_pos c_3)
          have hc_3 : i < ((8 * j0) + 8) - 1 := nI_lt8 c_3 (by omega) (by omega)
          refine lv_aload_n hx hb dX6_keep_33 rfl (lv_at hl 2 rfl) ?_
          refine fg_X6_32 hx hb hts hK hP hown dX6_keep_34 ?_
          refine lv_iload hx hb dX6_keep_37 (lv_at hl 0 rfl) ?_
          refine lv_aload_n hx hb dX6_keep_39 rfl (lv_at hl 2 rfl) ?_
          refine fg_X6_32 hx hb hts hK hP hown dX6_keep_40 ?_
          refine lv_iload hx hb dX6_keep_43 (lv_at hl 0 rfl) ?_
          refine lv_iconst (v := 1) hx hb dX6_keep_45 (by decide) ?_
          refine lv_iadd hx hb dX6_keep_46 ?_
          refine w_eqi (y := nI (i + 1)) (nI_add i 1) ?_
          refine w_laldN hx hb hK hP (k := 7) (by decide) lyM7 (i := i + 1) (by omega) (by decide) dX6_keep_47 ?_
          refine w_lastN hx hb hK hP hI hS hA (k := 7) (by decide) lyM7 uAM7 (i := i) (by omega) (by decide) dX6_keep_48 (fun H locs hP hS => ?_)
          obtain ⟨M_4, eM_4⟩ : ∃ z : Mem, z = sJ M_21 0 (vp_updL (gJ M_21 0) (i) (gJ M_21 0 (i + 1))) := ⟨_, rfl⟩
          rw [← eM_4] at hP
          have hv := bnd_name hv eM_4
          have wM_4 : WFm M_4 := by rw [eM_4]; exact WFm_sJ hx1_21
          have kkM_4 : ∀ j, kn M_4 j = kn M_21 j := by intro j; rw [eM_4]; rfl
          refine lv_aload_n hx hb dX6_keep_49 rfl (lv_at hl 2 rfl) ?_
          refine fg_X6_36 hx hb hts hK hP hown dX6_keep_50 ?_
          refine lv_iload hx hb dX6_keep_53 (lv_at hl 0 rfl) ?_
          refine lv_aload_n hx hb dX6_keep_55 rfl (lv_at hl 2 rfl) ?_
          refine fg_X6_36 hx hb hts hK hP hown dX6_keep_56 ?_
          refine lv_iload hx hb dX6_keep_59 (lv_at hl 0 rfl) ?_
          refine lv_iconst (v := 1) hx hb dX6_keep_61 (by decide) ?_
          refine lv_iadd hx hb dX6_keep_62 ?_
          refine w_eqi (y := nI (i + 1)) (nI_add i 1) ?_
          refine w_laldN hx hb hK hP (k := 8) (by decide) lyM8 (i := i + 1) (by omega) (by decide) dX6_keep_63 ?_
          refine w_lastN hx hb hK hP hI hS hA (k := 8) (by decide) lyM8 uAM8 (i := i) (by omega) (by decide) dX6_keep_64 (fun H locs hP hS => ?_)
          obtain ⟨M_5, eM_5⟩ : ∃ z : Mem, z = sJ M_4 1 (vp_updL (gJ M_4 1) (i) (gJ M_4 1 (i + 1))) := ⟨_, rfl⟩
          rw [← eM_5] at hP
          have hv := bnd_name hv eM_5
          have wM_5 : WFm M_5 := by rw [eM_5]; exact WFm_sJ wM_4
          have kkM_5 : ∀ j, kn M_5 j = kn M_4 j := by intro j; rw [eM_5]; rfl
          refine lv_aload_n hx hb dX6_keep_65 rfl (lv_at hl 2 rfl) ?_
          refine fg_X6_39 hx hb hts hK hP hown dX6_keep_66 ?_
          refine lv_iload hx hb dX6_keep_69 (lv_at hl 0 rfl) ?_
          refine lv_aload_n hx hb dX6_keep_71 rfl (lv_at hl 2 rfl) ?_
          refine fg_X6_39 hx hb hts hK hP hown dX6_keep_72 ?_
          refine lv_iload hx hb dX6_keep_75 (lv_at hl 0 rfl) ?_
          refine lv_iconst (v := 1) hx hb dX6_keep_77 (by decide) ?_
          refine lv_iadd hx hb dX6_keep_78 ?_
          refine w_eqi (y := nI (i + 1)) (nI_add i 1) ?_
          refine w_laldN hx hb hK hP (k := 9) (by decide) lyM9 (i := i + 1) (by omega) (by decide) dX6_keep_79 ?_
          refine w_lastN hx hb hK hP hI hS hA (k := 9) (by decide) lyM9 uAM9 (i := i) (by omega) (by decide) dX6_keep_80 (fun H locs hP hS => ?_)
          obtain ⟨M_6, eM_6⟩ : ∃ z : Mem, z = sJ M_5 2 (vp_updL (gJ M_5 2) (i) (gJ M_5 2 (i + 1))) := ⟨_, rfl⟩
          rw [← eM_6] at hP
          have hv := bnd_name hv eM_6
          have wM_6 : WFm M_6 := by rw [eM_6]; exact WFm_sJ wM_5
          have kkM_6 : ∀ j, kn M_6 j = kn M_5 j := by intro j; rw [eM_6]; rfl
          refine lv_iinc (v := nI (i + 1)) (lv' := [(9, .int (nI (i + 1))), (8, .int (nI (8 * j0))), (0, .ref (ad (0))), (1, .int (nI j0)), (2, .long p1), (4, .long p2), (6, .long p3)]) hx hb dX6_keep_81 hl (k := 0) rfl (show nI (i) + 1 = nI (i + 1) from nI_1 _) (by decide) rfl (fun ls hl => ?_)
          refine lv_goto (tgt := 21) hx hb dX6_keep_84 (by decide) ?_
          exact ih (i + 1)  M_6 _ _ _ (by omega) (by omega) (fun j => by rw [kkM_6, kkM_5, kkM_4, hx0_21]) (wM_6) hv hP hS (lv_sub hl [0, 1, 2, 3, 4, 5, 6] rfl)
        · have hv := hv.trans (if_neg c_3)
          have hc_3 : ¬ i < ((8 * j0) + 8) - 1 := fun h => c_3 (nI_lt h (by omega))
          refine lv_aload_n hx hb dX6_keep_87 rfl (lv_at hl 2 rfl) ?_
          refine fg_X6_29 hx hb hts hK hP hown dX6_keep_88 ?_
          refine lv_iload_n hx hb dX6_keep_91 rfl (lv_at hl 3 rfl) ?_
          refine lv_dup2_11 hx hb dX6_keep_92 rfl rfl ?_
          refine w_ialdN hx hb hK hP (k := 6) (by decide) lyM6 (i := j0) (by omega) (by decide) dX6_keep_93 ?_
          have q_7 := (WFk hx1_21 (j := j0) (by omega)).1
          refine w_eqi (y := nI (kn M_21 (j0))) (WFk hx1_21 (j := j0) (by omega)).2 ?_
          have q_8 := hx0_21 (j0)
          refine lv_iconst (v := 1) hx hb dX6_keep_94 (by decide) ?_
          refine lv_isub hx hb dX6_keep_95 ?_
          refine w_eqi (y := nI ((kn M_21 (j0)) - 1)) (pk_sub (a := (kn M_21 (j0))) (b := 1) (by omega)) ?_
          refine w_iastN hx hb hK hP hI hS hA (k := 6) (by decide) lyM6 uAM6 (i := j0) (by omega) (by decide) dX6_keep_96 (fun H locs hP hS => ?_)
          obtain ⟨M_9, eM_9⟩ : ∃ z : Mem, z = sB M_21 5 (upd (gB M_21 5) (j0) (nI ((kn M_21 (j0)) - 1))) := ⟨_, rfl⟩
          rw [← eM_9] at hP
          have hv := bnd_name hv eM_9
          have wM_9 : WFm M_9 := by rw [eM_9]; exact WFm_k ((kn M_21 (j0)) - 1) hx1_21 (by omega) rfl
          have kkM_9 : kn M_9 (j0) = (kn M_21 (j0)) - 1 := by rw [eM_9]; exact kn_sB (by omega) rfl
          refine lv_iload hx hb dX6_keep_97 (lv_at hl 1 rfl) ?_
          refine lv_aload_n hx hb dX6_keep_99 rfl (lv_at hl 2 rfl) ?_
          refine fg_X6_29 hx hb hts hK hP hown dX6_keep_100 ?_
          refine lv_iload_n hx hb dX6_keep_103 rfl (lv_at hl 3 rfl) ?_
          refine w_ialdN hx hb hK hP (k := 6) (by decide) lyM6 (i := j0) (by omega) (by decide) dX6_keep_104 ?_
          have q_10 := (WFk wM_9 (j := j0) (by omega)).1
          refine w_eqi (y := nI (kn M_9 (j0))) (WFk wM_9 (j := j0) (by omega)).2 ?_
          refine lv_iadd hx hb dX6_keep_105 ?_
          refine w_eqi (y := nI ((8 * j0) + (kn M_9 (j0)))) (nI_add (8 * j0) (kn M_9 (j0))) ?_
          refine lv_istore (lv' := [(9, .int (nI ((8 * j0) + (kn M_9 (j0))))), (8, .int (nI (8 * j0))), (0, .ref (ad (0))), (1, .int (nI j0)), (2, .long p1), (4, .long p2), (6, .long p3)]) hx hb dX6_keep_106 hl (by decide) rfl (fun ls hl => ?_)
          refine lv_aload_n hx hb dX6_keep_108 rfl (lv_at hl 2 rfl) ?_
          refine fg_X6_32 hx hb hts hK hP hown dX6_keep_109 ?_
          refine lv_iload hx hb dX6_keep_112 (lv_at hl 0 rfl) ?_
          refine lv_lload_n hx hb dX6_keep_114 rfl (lv_at hl 4 rfl) ?_
          refine w_lastN hx hb hK hP hI hS hA (k := 7) (by decide) lyM7 uAM7 (i := (8 * j0) + (kn M_9 (j0))) (by omega) (by decide) dX6_keep_115 (fun H locs hP hS => ?_)
          obtain ⟨M_11, eM_11⟩ : ∃ z : Mem, z = sJ M_9 0 (vp_updL (gJ M_9 0) ((8 * j0) + (kn M_9 (j0))) p1) := ⟨_, rfl⟩
          rw [← eM_11] at hP
          have hv := bnd_name hv eM_11
          have wM_11 : WFm M_11 := by rw [eM_11]; exact WFm_sJ wM_9
          have kkM_11 : ∀ j, kn M_11 j = kn M_9 j := by intro j; rw [eM_11]; rfl
          refine lv_aload_n hx hb dX6_keep_116 rfl (lv_at hl 2 rfl) ?_
          refine fg_X6_36 hx hb hts hK hP hown dX6_keep_117 ?_
          refine lv_iload hx hb dX6_keep_120 (lv_at hl 0 rfl) ?_
          refine lv_lload hx hb dX6_keep_122 (lv_at hl 5 rfl) ?_
          refine w_lastN hx hb hK hP hI hS hA (k := 8) (by decide) lyM8 uAM8 (i := (8 * j0) + (kn M_9 (j0))) (by omega) (by decide) dX6_keep_124 (fun H locs hP hS => ?_)
          obtain ⟨M_12, eM_12⟩ : ∃ z : Mem, z = sJ M_11 1 (vp_updL (gJ M_11 1) ((8 * j0) + (kn M_9 (j0))) p2) := ⟨_, rfl⟩
          rw [← eM_12] at hP
          have hv := bnd_name hv eM_12
          have wM_12 : WFm M_12 := by rw [eM_12]; exact WFm_sJ wM_11
          have kkM_12 : ∀ j, kn M_12 j = kn M_11 j := by intro j; rw [eM_12]; rfl
          refine lv_aload_n hx hb dX6_keep_125 rfl (lv_at hl 2 rfl) ?_
          refine fg_X6_39 hx hb hts hK hP hown dX6_keep_126 ?_
          refine lv_iload hx hb dX6_keep_129 (lv_at hl 0 rfl) ?_
          refine lv_lload hx hb dX6_keep_131 (lv_at hl 6 rfl) ?_
          refine w_lastN hx hb hK hP hI hS hA (k := 9) (by decide) lyM9 uAM9 (i := (8 * j0) + (kn M_9 (j0))) (by omega) (by decide) dX6_keep_133 (fun H locs hP hS => ?_)
          obtain ⟨M_13, eM_13⟩ : ∃ z : Mem, z = sJ M_12 2 (vp_updL (gJ M_12 2) ((8 * j0) + (kn M_9 (j0))) p3) := ⟨_, rfl⟩
          rw [← eM_13] at hP
          have hv := bnd_name hv eM_13
          have wM_13 : WFm M_13 := by rw [eM_13]; exact WFm_sJ wM_12
          have kkM_13 : ∀ j, kn M_13 j = kn M_12 j := by intro j; rw [eM_13]; rfl
          refine lv_aload_n hx hb dX6_keep_134 rfl (lv_at hl 2 rfl) ?_
          refine fg_X6_29 hx hb hts hK hP hown dX6_keep_135 ?_
          refine lv_iload_n hx hb dX6_keep_138 rfl (lv_at hl 3 rfl) ?_
          refine lv_dup2_11 hx hb dX6_keep_139 rfl rfl ?_
          refine w_ialdN hx hb hK hP (k := 6) (by decide) lyM6 (i := j0) (by omega) (by decide) dX6_keep_140 ?_
          have q_14 := (WFk wM_13 (j := j0) (by omega)).1
          refine w_eqi (y := nI (kn M_13 (j0))) (WFk wM_13 (j := j0) (by omega)).2 ?_
          have q_15 := kkM_11 (j0)
          have q_16 := kkM_12 (j0)
          have q_17 := kkM_13 (j0)
          refine lv_iconst (v := 1) hx hb dX6_keep_141 (by decide) ?_
          refine lv_iadd hx hb dX6_keep_142 ?_
          refine w_eqi (y := nI ((kn M_13 (j0)) + 1)) (nI_add (kn M_13 (j0)) 1) ?_
          refine w_iastN hx hb hK hP hI hS hA (k := 6) (by decide) lyM6 uAM6 (i := j0) (by omega) (by decide) dX6_keep_143 (fun H locs hP hS => ?_)
          obtain ⟨M_18, eM_18⟩ : ∃ z : Mem, z = sB M_13 5 (upd (gB M_13 5) (j0) (nI ((kn M_13 (j0)) + 1))) := ⟨_, rfl⟩
          rw [← eM_18] at hP
          have hv := bnd_name hv eM_18
          have wM_18 : WFm M_18 := by rw [eM_18]; exact WFm_k ((kn M_13 (j0)) + 1) wM_13 (by omega) rfl
          have kkM_18 : kn M_18 (j0) = (kn M_13 (j0)) + 1 := by rw [eM_18]; exact kn_sB (by omega) rfl
          exact W.vret hx hb hr (fun t ht hW => ⟨⟨M_18, rfl, ⟨hv.symm.trans eV, wM_18⟩, by rw [ht]; exact hP, va_K.moved hW.alike hK⟩, hS.F ht⟩) hS.2.2 dX6_keep_144
    exact L21 ((8 * j0 + 8 - 1) + 1 - 8 * j0) (8 * j0)  M _ _ _ (by omega) (by omega) (fun _ => rfl) (hw0) hv hP hS (lv_sub hl [0, 1, 2, 3, 4, 5, 6] rfl)
  · have hv := hv.trans (if_neg c_2)
    have hc_2 : ¬ kn M (j0) = 8 := fun h => c_2 (by rw [h]; rfl)
    refine lv_iload hx hb dX6_keep_97 (lv_at hl 0 rfl) ?_
    refine lv_aload_n hx hb dX6_keep_99 rfl (lv_at hl 1 rfl) ?_
    refine fg_X6_29 hx hb hts hK hP hown dX6_keep_100 ?_
    refine lv_iload_n hx hb dX6_keep_103 rfl (lv_at hl 2 rfl) ?_
    refine w_ialdN hx hb hK hP (k := 6) (by decide) lyM6 (i := j0) (by omega) (by decide) dX6_keep_104 ?_
    have q_19 := (WFk hw0 (j := j0) (by omega)).1
    refine w_eqi (y := nI (kn M (j0))) (WFk hw0 (j := j0) (by omega)).2 ?_
    refine lv_iadd hx hb dX6_keep_105 ?_
    refine w_eqi (y := nI ((8 * j0) + (kn M (j0)))) (nI_add (8 * j0) (kn M (j0))) ?_
    refine lv_istore (lv' := [(9, .int (nI ((8 * j0) + (kn M (j0))))), (8, .int (nI (8 * j0))), (0, .ref (ad (0))), (1, .int (nI j0)), (2, .long p1), (4, .long p2), (6, .long p3)]) hx hb dX6_keep_106 hl (by decide) rfl (fun ls hl => ?_)
    refine lv_aload_n hx hb dX6_keep_108 rfl (lv_at hl 2 rfl) ?_
    refine fg_X6_32 hx hb hts hK hP hown dX6_keep_109 ?_
    refine lv_iload hx hb dX6_keep_112 (lv_at hl 0 rfl) ?_
    refine lv_lload_n hx hb dX6_keep_114 rfl (lv_at hl 4 rfl) ?_
    refine w_lastN hx hb hK hP hI hS hA (k := 7) (by decide) lyM7 uAM7 (i := (8 * j0) + (kn M (j0))) (by omega) (by decide) dX6_keep_115 (fun H locs hP hS => ?_)
    obtain ⟨M_20, eM_20⟩ : ∃ z : Mem, z = sJ M 0 (vp_updL (gJ M 0) ((8 * j0) + (kn M (j0))) p1) := ⟨_, rfl⟩
    rw [← eM_20] at hP
    have hv := bnd_name hv eM_20
    have wM_20 : WFm M_20 := by rw [eM_20]; exact WFm_sJ hw0
    have kkM_20 : ∀ j, kn M_20 j = kn M j := by intro j; rw [eM_20]; rfl
    refine lv_aload_n hx hb dX6_keep_116 rfl (lv_at hl 2 rfl) ?_
    refine fg_X6_36 hx hb hts hK hP hown dX6_keep_117 ?_
    refine lv_iload hx hb dX6_keep_120 (lv_at hl 0 rfl) ?_
    refine lv_lload hx hb dX6_keep_122 (lv_at hl 5 rfl) ?_
    refine w_lastN hx hb hK hP hI hS hA (k := 8) (by decide) lyM8 uAM8 (i := (8 * j0) + (kn M (j0))) (by omega) (by decide) dX6_keep_124 (fun H locs hP hS => ?_)
    obtain ⟨M_21, eM_21⟩ : ∃ z : Mem, z = sJ M_20 1 (vp_updL (gJ M_20 1) ((8 * j0) + (kn M (j0))) p2) := ⟨_, rfl⟩
    rw [← eM_21] at hP
    have hv := bnd_name hv eM_21
    have wM_21 : WFm M_21 := by rw [eM_21]; exact WFm_sJ wM_20
    have kkM_21 : ∀ j, kn M_21 j = kn M_20 j := by intro j; rw [eM_21]; rfl
    refine lv_aload_n hx hb dX6_keep_125 rfl (lv_at hl 2 rfl) ?_
    refine fg_X6_39 hx hb hts hK hP hown dX6_keep_126 ?_
    refine lv_iload hx hb dX6_keep_129 (lv_at hl 0 rfl) ?_
    refine lv_lload hx hb dX6_keep_131 (lv_at hl 6 rfl) ?_
    refine w_lastN hx hb hK hP hI hS hA (k := 9) (by decide) lyM9 uAM9 (i := (8 * j0) + (kn M (j0))) (by omega) (by decide) dX6_keep_133 (fun H locs hP hS => ?_)
    obtain ⟨M_22, eM_22⟩ : ∃ z : Mem, z = sJ M_21 2 (vp_updL (gJ M_21 2) ((8 * j0) + (kn M (j0))) p3) := ⟨_, rfl⟩
    rw [← eM_22] at hP
    have hv := bnd_name hv eM_22
    have wM_22 : WFm M_22 := by rw [eM_22]; exact WFm_sJ wM_21
    have kkM_22 : ∀ j, kn M_22 j = kn M_21 j := by intro j; rw [eM_22]; rfl
    refine lv_aload_n hx hb dX6_keep_134 rfl (lv_at hl 2 rfl) ?_
    refine fg_X6_29 hx hb hts hK hP hown dX6_keep_135 ?_
    refine lv_iload_n hx hb dX6_keep_138 rfl (lv_at hl 3 rfl) ?_
    refine lv_dup2_11 hx hb dX6_keep_139 rfl rfl ?_
    refine w_ialdN hx hb hK hP (k := 6) (by decide) lyM6 (i := j0) (by omega) (by decide) dX6_keep_140 ?_
    have q_23 := (WFk wM_22 (j := j0) (by omega)).1
    refine w_eqi (y := nI (kn M_22 (j0))) (WFk wM_22 (j := j0) (by omega)).2 ?_
    have q_24 := kkM_20 (j0)
    have q_25 := kkM_21 (j0)
    have q_26 := kkM_22 (j0)
    refine lv_iconst (v := 1) hx hb dX6_keep_141 (by decide) ?_
    refine lv_iadd hx hb dX6_keep_142 ?_
    refine w_eqi (y := nI ((kn M_22 (j0)) + 1)) (nI_add (kn M_22 (j0)) 1) ?_
    refine w_iastN hx hb hK hP hI hS hA (k := 6) (by decide) lyM6 uAM6 (i := j0) (by omega) (by decide) dX6_keep_143 (fun H locs hP hS => ?_)
    obtain ⟨M_27, eM_27⟩ : ∃ z : Mem, z = sB M_22 5 (upd (gB M_22 5) (j0) (nI ((kn M_22 (j0)) + 1))) := ⟨_, rfl⟩
    rw [← eM_27] at hP
    have hv := bnd_name hv eM_27
    have wM_27 : WFm M_27 := by rw [eM_27]; exact WFm_k ((kn M_22 (j0)) + 1) wM_22 (by omega) rfl
    have kkM_27 : kn M_27 (j0) = (kn M_22 (j0)) + 1 := by rw [eM_27]; exact kn_sB (by omega) rfl
    exact W.vret hx hb hr (fun t ht hW => ⟨⟨M_27, rfl, ⟨hv.symm.trans eV, wM_27⟩, by rw [ht]; exact hP, va_K.moved hW.alike hK⟩, hS.F ht⟩) hS.2.2 dX6_keep_144
def f_X6_exchange (M : Mem) (p0 : Int32) (p1 : Int32) (p2 : Int32) (p3 : Int32) : Int64 × Mem := bnd ((f_X6_in ((p1).toInt64) (0 : Int64) (500000 : Int64))) fun x_1 => if x_1 = (0 : Int32) then bnd (f_X6_isServer M  p0) fun r_3 => if r_3 = (0 : Int32) then bnd2 (f_X6_refused M  (1 : Int32)) fun r_6 M_5 => ((0 : Int64), M_5) else bnd2 (f_X6_refused M  (2 : Int32)) fun r_11 M_10 => ((0 : Int64), M_10) else bnd ((f_X6_in ((p2).toInt64) (0 : Int64) (100000 : Int64))) fun x_14 => if x_14 = (0 : Int32) then bnd (f_X6_isServer M  p0) fun r_16 => if r_16 = (0 : Int32) then bnd2 (f_X6_refused M  (1 : Int32)) fun r_19 M_18 => ((0 : Int64), M_18) else bnd2 (f_X6_refused M  (2 : Int32)) fun r_24 M_23 => ((0 : Int64), M_23) else bnd ((f_X6_in ((p3).toInt64) (0 : Int64) (500000 : Int64))) fun x_27 => if x_27 = (0 : Int32) then bnd (f_X6_isServer M  p0) fun r_29 => if r_29 = (0 : Int32) then bnd2 (f_X6_refused M  (1 : Int32)) fun r_32 M_31 => ((0 : Int64), M_31) else bnd2 (f_X6_refused M  (2 : Int32)) fun r_37 M_36 => ((0 : Int64), M_36) else bnd (f_X6_isServer M  p0) fun r_40 => if r_40 = (0 : Int32) then bnd2 (f_X6_refused M  (1 : Int32)) fun r_43 M_42 => ((0 : Int64), M_42) else if (1000000000000 : Int64) < (((gL M (0) + (p1).toInt64) + (p2).toInt64) + (p3).toInt64) then bnd2 (f_X6_refused M  (3 : Int32)) fun r_49 M_48 => ((0 : Int64), M_48) else bnd2 (f_X6_refused M  (0 : Int32)) fun r_53 M_52 => bnd ((p0).toNatClampNeg) fun j0 => bnd (f_X6_reading M_52  ) fun r_56 => bnd (f_X6_goOn M_52  p1) fun M_57 => bnd ((gL M_57 (0) + (gB M_57 2 (j0)).toInt64)) fun x_58 => bnd (f_X6_goOn M_57  p2) fun M_59 => bnd ((gL M_59 (0) + (gB M_59 2 (j0)).toInt64)) fun x_60 => bnd (f_X6_goOn M_59  p3) fun M_61 => bnd (f_X6_reading M_61  ) fun r_62 => bnd (((r_62 - r_56) - (x_60 - x_58))) fun x_63 => if x_63 < (0 : Int64) then bnd ((f_X6_down ((x_58 - r_56) + (x_60 - r_62)) (2 : Int64))) fun x_65 => bnd (f_X6_keep M_61  (j0) x_65 (0 : Int64) r_62) fun M_66 => ((0 : Int64), M_66) else bnd ((f_X6_down ((x_58 - r_56) + (x_60 - r_62)) (2 : Int64))) fun x_67 => bnd (f_X6_keep M_61  (j0) x_67 x_63 r_62) fun M_68 => (x_63, M_68)
theorem hyX6_exchange : yX6_exchange.cls ≠ "java/lang/invoke/MethodHandle" ∧ yX6_exchange.cls ≠ "java/lang/invoke/VarHandle" ∧ (parseMethodDescriptor yX6_exchange.desc).map (fun d => d.parameters.length) = some 4 := by decide +kernel
set_option maxHeartbeats 4000000 in
set_option maxRecDepth 100000 in
theorem c_X6_exchange (l : Launch) (dC : Nat → ClassId) (dI : Nat → Nat → Nat) (cA : Nat → ClassId) (ad : Nat → Nat) (hI : Inj 12 ad) (M : Mem) (p0 : Int32) (p1 : Int32) (p2 : Int32) (p3 : Int32) (hw0 : WFm M)  : Met l yX6_exchange (.code yX6_exchange cX6_exchange 16 (some .long) :: AG) ({ frames := 2, cells := 0, slots := 0, locals := 46 } : Room) (va_Pc [.ref (ad (0)), .int p0, .int p1, .int p2, .int p3] (PM dC dI cA ad M)) (va_Ql (fun r u => (r, u) = f_X6_exchange M p0 p1 p2 p3 ∧ WFm u) (PM dC dI cA ad) (adS 12 ad)) 0 0 (adS 12 ad) := by
  refine cMet (by decide) (Nat.le_of_ble_eq_true rfl) ?_
  intro p e s m below meth c ls hx hb hr hml hlocks hown hts hK hP hS hl
  have hA : ∀ q, adS 12 ad q → adS 12 ad q := fun _ h => h
  have hl : lv_has ls 16 [(0, .ref (ad (0))), (1, .int p0), (2, .int p1), (3, .int p2), (4, .int p3)] := hl
  obtain ⟨V, eV⟩ : ∃ z, z = f_X6_exchange M p0 p1 p2 p3 := ⟨_, rfl⟩
  have hv := eV
  unfold f_X6_exchange at hv
  refine lv_iload_n hx hb dX6_exchange_0 rfl (lv_at hl 2 rfl) ?_
  refine lv_i2l (v := (p1).toInt64) hx hb dX6_exchange_1 rfl ?_
  refine lv_lconst (v := 0) hx hb dX6_exchange_2 (by decide) ?_
  refine lv_ldc2 (v := 500000) hx hb hown (hts _ q_999) dX6_exchange_3 ?_
  refine kSi hx hb hml hown hts (As := [.long ((p1).toInt64), .long (0 : Int64), .long (500000 : Int64)]) (rest := []) (c_X6_in l ((p1).toInt64) (0 : Int64) (500000 : Int64) ) (mkS hts q_909 q_53 q_907 q_908 hyX6_in rfl rfl ⟨(Nat.le_of_ble_eq_true rfl), (Nat.le_of_ble_eq_true rfl)⟩) rfl hl.1 rfl (Nat.le_of_ble_eq_true rfl) dX6_exchange_6 ⟨(Nat.le_of_ble_eq_true rfl), (Nat.le_of_ble_eq_true rfl)⟩ ?_
  refine lv_topi (fun x_1 ex_1 => ?_)
  have hv := bnd_name hv ex_1
  have bx_1 : x_1 = 0 ∨ x_1 = 1 := by rw [ex_1]; exact f_X6_in_b ((p1).toInt64) (0 : Int64) (500000 : Int64)
  refine j0_eq (tgt := 41) hx hb dX6_exchange_9 (by decide) (fun c_2 => ?_) (fun c_2 => ?_)
  · have hv := hv.trans (if_pos c_2)
    refine lv_iconst (v := 0) hx hb dX6_exchange_41 (by decide) ?_
    refine lv_istore (lv' := [(5, .int (0 : Int32)), (0, .ref (ad (0))), (1, .int p0), (2, .int p1), (3, .int p2), (4, .int p3)]) hx hb dX6_exchange_42 hl (by decide) rfl (fun ls hl => ?_)
    refine lv_aload_n hx hb dX6_exchange_44 rfl (lv_at hl 1 rfl) ?_
    refine lv_aload_n hx hb dX6_exchange_45 rfl (lv_at hl 1 rfl) ?_
    refine lv_iload_n hx hb dX6_exchange_46 rfl (lv_at hl 2 rfl) ?_
    refine kVi hx hb hml hown hts hK hP hS hA (As := [.int p0]) (rest := [.ref (ad (0))]) (c_X6_isServer l dC dI cA ad hI M  p0 hw0 ) (mkV hts q_994 q_53 q_991 q_993 q_29 hyX6_isServer rfl rfl ⟨(Nat.le_of_ble_eq_true rfl), (Nat.le_of_ble_eq_true rfl)⟩) (w_recv hK hP (k := 0) (by decide) lyM0 (q := (RX6, TX6, 26)) rfl) rfl hl.1 rfl (Nat.le_of_ble_eq_true rfl) dX6_exchange_47 ⟨(Nat.le_of_ble_eq_true rfl), (Nat.le_of_ble_eq_true rfl)⟩ (fun r u H locs hw hP hS _ _ => ?_)
    obtain ⟨hw, hu⟩ := hw
    rw [hu] at hP
    have hv := bnd_name hv hw
    obtain ⟨r_3, er_3⟩ : ∃ z, z = r := ⟨_, rfl⟩
    rw [← er_3] at hv hw
    refine w_eqi er_3.symm ?_
    have gr_3 := hw
    have br_3 : r_3 = 0 ∨ r_3 = 1 := by rw [hw]; exact f_X6_isServer_b M  p0
    refine j0_ne (tgt := 57) hx hb dX6_exchange_50 (by decide) (fun c_4 => ?_) (fun c_4 => ?_)
    · have hv := hv.trans (if_pos c_4)
      refine lv_iconst (v := 1) hx hb dX6_exchange_53 (by decide) ?_
      refine lv_goto (tgt := 92) hx hb dX6_exchange_54 (by decide) ?_
      refine kVi hx hb hml hown hts hK hP hS hA (As := [.int (1 : Int32)]) (rest := []) (c_X6_refused l dC dI cA ad hI M  (1 : Int32) hw0 ) (mkV hts q_913 q_53 q_910 q_912 q_24 hyX6_refused rfl rfl ⟨(Nat.le_of_ble_eq_true rfl), (Nat.le_of_ble_eq_true rfl)⟩) (w_recv hK hP (k := 0) (by decide) lyM0 (q := (RX6, TX6, 26)) rfl) rfl hl.1 rfl (Nat.le_of_ble_eq_true rfl) dX6_exchange_92 ⟨(Nat.le_of_ble_eq_true rfl), (Nat.le_of_ble_eq_true rfl)⟩ (fun r u H locs hw hP hS _ _ => ?_)
      obtain ⟨M_5, eM_5⟩ : ∃ z, z = u := ⟨_, rfl⟩
      rw [← eM_5] at hP hw
      obtain ⟨r_6, er_6⟩ : ∃ z, z = r := ⟨_, rfl⟩
      rw [← er_6] at hw
      refine w_eqi er_6.symm ?_
      obtain ⟨hw, wM_5⟩ := hw
      have gM_5 := hw
      have hv := bnd2_name hv hw
      have lr_6 : r_6 = 1 := congrArg Prod.fst hw
      refine w_eqi lr_6 ?_
      refine j0_eq (tgt := 100) hx hb dX6_exchange_95 (by decide) (fun c_8 => absurd c_8 (by decide)) (fun _ => ?_)
      refine lv_lconst (v := 0) hx hb dX6_exchange_98 (by decide) ?_
      exact W.lret (v := (0 : Int64)) hx hb hr (fun t ht hW => ⟨⟨_, M_5, rfl, ⟨hv.symm.trans eV, wM_5⟩, by rw [ht]; exact hP, va_K.moved hW.alike hK⟩, hS.F ht⟩) hS.2.2 dX6_exchange_99
    · have hv := hv.trans (if_neg c_4)
      refine lv_iload hx hb dX6_exchange_57 (lv_at hl 0 rfl) ?_
      refine j0_ne (tgt := 66) hx hb dX6_exchange_59 (by decide) (fun _ => ?_) (fun c_9 => absurd (by decide) c_9)
      refine lv_iconst (v := 2) hx hb dX6_exchange_62 (by decide) ?_
      refine lv_goto (tgt := 92) hx hb dX6_exchange_63 (by decide) ?_
      refine kVi hx hb hml hown hts hK hP hS hA (As := [.int (2 : Int32)]) (rest := []) (c_X6_refused l dC dI cA ad hI M  (2 : Int32) hw0 ) (mkV hts q_913 q_53 q_910 q_912 q_24 hyX6_refused rfl rfl ⟨(Nat.le_of_ble_eq_true rfl), (Nat.le_of_ble_eq_true rfl)⟩) (w_recv hK hP (k := 0) (by decide) lyM0 (q := (RX6, TX6, 26)) rfl) rfl hl.1 rfl (Nat.le_of_ble_eq_true rfl) dX6_exchange_92 ⟨(Nat.le_of_ble_eq_true rfl), (Nat.le_of_ble_eq_true rfl)⟩ (fun r u H locs hw hP hS _ _ => ?_)
      obtain ⟨M_10, eM_10⟩ : ∃ z, z = u := ⟨_, rfl⟩
      rw [← eM_10] at hP hw
      obtain ⟨r_11, er_11⟩ : ∃ z, z = r := ⟨_, rfl⟩
      rw [← er_11] at hw
      refine w_eqi er_11.symm ?_
      obtain ⟨hw, wM_10⟩ := hw
      have gM_10 := hw
      have hv := bnd2_name hv hw
      have lr_11 : r_11 = 1 := congrArg Prod.fst hw
      refine w_eqi lr_11 ?_
      refine j0_eq (tgt := 100) hx hb dX6_exchange_95 (by decide) (fun c_13 => absurd c_13 (by decide)) (fun _ => ?_)
      refine lv_lconst (v := 0) hx hb dX6_exchange_98 (by decide) ?_
      exact W.lret (v := (0 : Int64)) hx hb hr (fun t ht hW => ⟨⟨_, M_10, rfl, ⟨hv.symm.trans eV, wM_10⟩, by rw [ht]; exact hP, va_K.moved hW.alike hK⟩, hS.F ht⟩) hS.2.2 dX6_exchange_99
  · have hv := hv.trans (if_neg c_2)
    refine lv_iload_n hx hb dX6_exchange_12 rfl (lv_at hl 3 rfl) ?_
    refine lv_i2l (v := (p2).toInt64) hx hb dX6_exchange_13 rfl ?_
    refine lv_lconst (v := 0) hx hb dX6_exchange_14 (by decide) ?_
    refine lv_ldc2 (v := 100000) hx hb hown (hts _ q_1000) dX6_exchange_15 ?_
    refine kSi hx hb hml hown hts (As := [.long ((p2).toInt64), .long (0 : Int64), .long (100000 : Int64)]) (rest := []) (c_X6_in l ((p2).toInt64) (0 : Int64) (100000 : Int64) ) (mkS hts q_909 q_53 q_907 q_908 hyX6_in rfl rfl ⟨(Nat.le_of_ble_eq_true rfl), (Nat.le_of_ble_eq_true rfl)⟩) rfl hl.1 rfl (Nat.le_of_ble_eq_true rfl) dX6_exchange_18 ⟨(Nat.le_of_ble_eq_true rfl), (Nat.le_of_ble_eq_true rfl)⟩ ?_
    refine lv_topi (fun x_14 ex_14 => ?_)
    have hv := bnd_name hv ex_14
    have bx_14 : x_14 = 0 ∨ x_14 = 1 := by rw [ex_14]; exact f_X6_in_b ((p2).toInt64) (0 : Int64) (100000 : Int64)
    refine j0_eq (tgt := 41) hx hb dX6_exchange_21 (by decide) (fun c_15 => ?_) (fun c_15 => ?_)
    · have hv := hv.trans (if_pos c_15)
      refine lv_iconst (v := 0) hx hb dX6_exchange_41 (by decide) ?_
      refine lv_istore (lv' := [(5, .int (0 : Int32)), (0, .ref (ad (0))), (1, .int p0), (2, .int p1), (3, .int p2), (4, .int p3)]) hx hb dX6_exchange_42 hl (by decide) rfl (fun ls hl => ?_)
      refine lv_aload_n hx hb dX6_exchange_44 rfl (lv_at hl 1 rfl) ?_
      refine lv_aload_n hx hb dX6_exchange_45 rfl (lv_at hl 1 rfl) ?_
      refine lv_iload_n hx hb dX6_exchange_46 rfl (lv_at hl 2 rfl) ?_
      refine kVi hx hb hml hown hts hK hP hS hA (As := [.int p0]) (rest := [.ref (ad (0))]) (c_X6_isServer l dC dI cA ad hI M  p0 hw0 ) (mkV hts q_994 q_53 q_991 q_993 q_29 hyX6_isServer rfl rfl ⟨(Nat.le_of_ble_eq_true rfl), (Nat.le_of_ble_eq_true rfl)⟩) (w_recv hK hP (k := 0) (by decide) lyM0 (q := (RX6, TX6, 26)) rfl) rfl hl.1 rfl (Nat.le_of_ble_eq_true rfl) dX6_exchange_47 ⟨(Nat.le_of_ble_eq_true rfl), (Nat.le_of_ble_eq_true rfl)⟩ (fun r u H locs hw hP hS _ _ => ?_)
      obtain ⟨hw, hu⟩ := hw
      rw [hu] at hP
      have hv := bnd_name hv hw
      obtain ⟨r_16, er_16⟩ : ∃ z, z = r := ⟨_, rfl⟩
      rw [← er_16] at hv hw
      refine w_eqi er_16.symm ?_
      have gr_16 := hw
      have br_16 : r_16 = 0 ∨ r_16 = 1 := by rw [hw]; exact f_X6_isServer_b M  p0
      refine j0_ne (tgt := 57) hx hb dX6_exchange_50 (by decide) (fun c_17 => ?_) (fun c_17 => ?_)
      · have hv := hv.trans (if_pos c_17)
        refine lv_iconst (v := 1) hx hb dX6_exchange_53 (by decide) ?_
        refine lv_goto (tgt := 92) hx hb dX6_exchange_54 (by decide) ?_
        refine kVi hx hb hml hown hts hK hP hS hA (As := [.int (1 : Int32)]) (rest := []) (c_X6_refused l dC dI cA ad hI M  (1 : Int32) hw0 ) (mkV hts q_913 q_53 q_910 q_912 q_24 hyX6_refused rfl rfl ⟨(Nat.le_of_ble_eq_true rfl), (Nat.le_of_ble_eq_true rfl)⟩) (w_recv hK hP (k := 0) (by decide) lyM0 (q := (RX6, TX6, 26)) rfl) rfl hl.1 rfl (Nat.le_of_ble_eq_true rfl) dX6_exchange_92 ⟨(Nat.le_of_ble_eq_true rfl), (Nat.le_of_ble_eq_true rfl)⟩ (fun r u H locs hw hP hS _ _ => ?_)
        obtain ⟨M_18, eM_18⟩ : ∃ z, z = u := ⟨_, rfl⟩
        rw [← eM_18] at hP hw
        obtain ⟨r_19, er_19⟩ : ∃ z, z = r := ⟨_, rfl⟩
        rw [← er_19] at hw
        refine w_eqi er_19.symm ?_
        obtain ⟨hw, wM_18⟩ := hw
        have gM_18 := hw
        have hv := bnd2_name hv hw
        have lr_19 : r_19 = 1 := congrArg Prod.fst hw
        refine w_eqi lr_19 ?_
        refine j0_eq (tgt := 100) hx hb dX6_exchange_95 (by decide) (fun c_21 => absurd c_21 (by decide)) (fun _ => ?_)
        refine lv_lconst (v := 0) hx hb dX6_exchange_98 (by decide) ?_
        exact W.lret (v := (0 : Int64)) hx hb hr (fun t ht hW => ⟨⟨_, M_18, rfl, ⟨hv.symm.trans eV, wM_18⟩, by rw [ht]; exact hP, va_K.moved hW.alike hK⟩, hS.F ht⟩) hS.2.2 dX6_exchange_99
      · have hv := hv.trans (if_neg c_17)
        refine lv_iload hx hb dX6_exchange_57 (lv_at hl 0 rfl) ?_
        refine j0_ne (tgt := 66) hx hb dX6_exchange_59 (by decide) (fun _ => ?_) (fun c_22 => absurd (by decide) c_22)
        refine lv_iconst (v := 2) hx hb dX6_exchange_62 (by decide) ?_
        refine lv_goto (tgt := 92) hx hb dX6_exchange_63 (by decide) ?_
        refine kVi hx hb hml hown hts hK hP hS hA (As := [.int (2 : Int32)]) (rest := []) (c_X6_refused l dC dI cA ad hI M  (2 : Int32) hw0 ) (mkV hts q_913 q_53 q_910 q_912 q_24 hyX6_refused rfl rfl ⟨(Nat.le_of_ble_eq_true rfl), (Nat.le_of_ble_eq_true rfl)⟩) (w_recv hK hP (k := 0) (by decide) lyM0 (q := (RX6, TX6, 26)) rfl) rfl hl.1 rfl (Nat.le_of_ble_eq_true rfl) dX6_exchange_92 ⟨(Nat.le_of_ble_eq_true rfl), (Nat.le_of_ble_eq_true rfl)⟩ (fun r u H locs hw hP hS _ _ => ?_)
        obtain ⟨M_23, eM_23⟩ : ∃ z, z = u := ⟨_, rfl⟩
        rw [← eM_23] at hP hw
        obtain ⟨r_24, er_24⟩ : ∃ z, z = r := ⟨_, rfl⟩
        rw [← er_24] at hw
        refine w_eqi er_24.symm ?_
        obtain ⟨hw, wM_23⟩ := hw
        have gM_23 := hw
        have hv := bnd2_name hv hw
        have lr_24 : r_24 = 1 := congrArg Prod.fst hw
        refine w_eqi lr_24 ?_
        refine j0_eq (tgt := 100) hx hb dX6_exchange_95 (by decide) (fun c_26 => absurd c_26 (by decide)) (fun _ => ?_)
        refine lv_lconst (v := 0) hx hb dX6_exchange_98 (by decide) ?_
        exact W.lret (v := (0 : Int64)) hx hb hr (fun t ht hW => ⟨⟨_, M_23, rfl, ⟨hv.symm.trans eV, wM_23⟩, by rw [ht]; exact hP, va_K.moved hW.alike hK⟩, hS.F ht⟩) hS.2.2 dX6_exchange_99
    · have hv := hv.trans (if_neg c_15)
      refine lv_iload hx hb dX6_exchange_24 (lv_at hl 4 rfl) ?_
      refine lv_i2l (v := (p3).toInt64) hx hb dX6_exchange_26 rfl ?_
      refine lv_lconst (v := 0) hx hb dX6_exchange_27 (by decide) ?_
      refine lv_ldc2 (v := 500000) hx hb hown (hts _ q_999) dX6_exchange_28 ?_
      refine kSi hx hb hml hown hts (As := [.long ((p3).toInt64), .long (0 : Int64), .long (500000 : Int64)]) (rest := []) (c_X6_in l ((p3).toInt64) (0 : Int64) (500000 : Int64) ) (mkS hts q_909 q_53 q_907 q_908 hyX6_in rfl rfl ⟨(Nat.le_of_ble_eq_true rfl), (Nat.le_of_ble_eq_true rfl)⟩) rfl hl.1 rfl (Nat.le_of_ble_eq_true rfl) dX6_exchange_31 ⟨(Nat.le_of_ble_eq_true rfl), (Nat.le_of_ble_eq_true rfl)⟩ ?_
      refine lv_topi (fun x_27 ex_27 => ?_)
      have hv := bnd_name hv ex_27
      have bx_27 : x_27 = 0 ∨ x_27 = 1 := by rw [ex_27]; exact f_X6_in_b ((p3).toInt64) (0 : Int64) (500000 : Int64)
      refine j0_eq (tgt := 41) hx hb dX6_exchange_34 (by decide) (fun c_28 => ?_) (fun c_28 => ?_)
      · have hv := hv.trans (if_pos c_28)
        refine lv_iconst (v := 0) hx hb dX6_exchange_41 (by decide) ?_
        refine lv_istore (lv' := [(5, .int (0 : Int32)), (0, .ref (ad (0))), (1, .int p0), (2, .int p1), (3, .int p2), (4, .int p3)]) hx hb dX6_exchange_42 hl (by decide) rfl (fun ls hl => ?_)
        refine lv_aload_n hx hb dX6_exchange_44 rfl (lv_at hl 1 rfl) ?_
        refine lv_aload_n hx hb dX6_exchange_45 rfl (lv_at hl 1 rfl) ?_
        refine lv_iload_n hx hb dX6_exchange_46 rfl (lv_at hl 2 rfl) ?_
        refine kVi hx hb hml hown hts hK hP hS hA (As := [.int p0]) (rest := [.ref (ad (0))]) (c_X6_isServer l dC dI cA ad hI M  p0 hw0 ) (mkV hts q_994 q_53 q_991 q_993 q_29 hyX6_isServer rfl rfl ⟨(Nat.le_of_ble_eq_true rfl), (Nat.le_of_ble_eq_true rfl)⟩) (w_recv hK hP (k := 0) (by decide) lyM0 (q := (RX6, TX6, 26)) rfl) rfl hl.1 rfl (Nat.le_of_ble_eq_true rfl) dX6_exchange_47 ⟨(Nat.le_of_ble_eq_true rfl), (Nat.le_of_ble_eq_true rfl)⟩ (fun r u H locs hw hP hS _ _ => ?_)
        obtain ⟨hw, hu⟩ := hw
        rw [hu] at hP
        have hv := bnd_name hv hw
        obtain ⟨r_29, er_29⟩ : ∃ z, z = r := ⟨_, rfl⟩
        rw [← er_29] at hv hw
        refine w_eqi er_29.symm ?_
        have gr_29 := hw
        have br_29 : r_29 = 0 ∨ r_29 = 1 := by rw [hw]; exact f_X6_isServer_b M  p0
        refine j0_ne (tgt := 57) hx hb dX6_exchange_50 (by decide) (fun c_30 => ?_) (fun c_30 => ?_)
        · have hv := hv.trans (if_pos c_30)
          refine lv_iconst (v := 1) hx hb dX6_exchange_53 (by decide) ?_
          refine lv_goto (tgt := 92) hx hb dX6_exchange_54 (by decide) ?_
          refine kVi hx hb hml hown hts hK hP hS hA (As := [.int (1 : Int32)]) (rest := []) (c_X6_refused l dC dI cA ad hI M  (1 : Int32) hw0 ) (mkV hts q_913 q_53 q_910 q_912 q_24 hyX6_refused rfl rfl ⟨(Nat.le_of_ble_eq_true rfl), (Nat.le_of_ble_eq_true rfl)⟩) (w_recv hK hP (k := 0) (by decide) lyM0 (q := (RX6, TX6, 26)) rfl) rfl hl.1 rfl (Nat.le_of_ble_eq_true rfl) dX6_exchange_92 ⟨(Nat.le_of_ble_eq_true rfl), (Nat.le_of_ble_eq_true rfl)⟩ (fun r u H locs hw hP hS _ _ => ?_)
          obtain ⟨M_31, eM_31⟩ : ∃ z, z = u := ⟨_, rfl⟩
          rw [← eM_31] at hP hw
          obtain ⟨r_32, er_32⟩ : ∃ z, z = r := ⟨_, rfl⟩
          rw [← er_32] at hw
          refine w_eqi er_32.symm ?_
          obtain ⟨hw, wM_31⟩ := hw
          have gM_31 := hw
          have hv := bnd2_name hv hw
          have lr_32 : r_32 = 1 := congrArg Prod.fst hw
          refine w_eqi lr_32 ?_
          refine j0_eq (tgt := 100) hx hb dX6_exchange_95 (by decide) (fun c_34 => absurd c_34 (by decide)) (fun _ => ?_)
          refine lv_lconst (v := 0) hx hb dX6_exchange_98 (by decide) ?_
          exact W.lret (v := (0 : Int64)) hx hb hr (fun t ht hW => ⟨⟨_, M_31, rfl, ⟨hv.symm.trans eV, wM_31⟩, by rw [ht]; exact hP, va_K.moved hW.alike hK⟩, hS.F ht⟩) hS.2.2 dX6_exchange_99
        · have hv := hv.trans (if_neg c_30)
          refine lv_iload hx hb dX6_exchange_57 (lv_at hl 0 rfl) ?_
          refine j0_ne (tgt := 66) hx hb dX6_exchange_59 (by decide) (fun _ => ?_) (fun c_35 => absurd (by decide) c_35)
          refine lv_iconst (v := 2) hx hb dX6_exchange_62 (by decide) ?_
          refine lv_goto (tgt := 92) hx hb dX6_exchange_63 (by decide) ?_
          refine kVi hx hb hml hown hts hK hP hS hA (As := [.int (2 : Int32)]) (rest := []) (c_X6_refused l dC dI cA ad hI M  (2 : Int32) hw0 ) (mkV hts q_913 q_53 q_910 q_912 q_24 hyX6_refused rfl rfl ⟨(Nat.le_of_ble_eq_true rfl), (Nat.le_of_ble_eq_true rfl)⟩) (w_recv hK hP (k := 0) (by decide) lyM0 (q := (RX6, TX6, 26)) rfl) rfl hl.1 rfl (Nat.le_of_ble_eq_true rfl) dX6_exchange_92 ⟨(Nat.le_of_ble_eq_true rfl), (Nat.le_of_ble_eq_true rfl)⟩ (fun r u H locs hw hP hS _ _ => ?_)
          obtain ⟨M_36, eM_36⟩ : ∃ z, z = u := ⟨_, rfl⟩
          rw [← eM_36] at hP hw
          obtain ⟨r_37, er_37⟩ : ∃ z, z = r := ⟨_, rfl⟩
          rw [← er_37] at hw
          refine w_eqi er_37.symm ?_
          obtain ⟨hw, wM_36⟩ := hw
          have gM_36 := hw
          have hv := bnd2_name hv hw
          have lr_37 : r_37 = 1 := congrArg Prod.fst hw
          refine w_eqi lr_37 ?_
          refine j0_eq (tgt := 100) hx hb dX6_exchange_95 (by decide) (fun c_39 => absurd c_39 (by decide)) (fun _ => ?_)
          refine lv_lconst (v := 0) hx hb dX6_exchange_98 (by decide) ?_
          exact W.lret (v := (0 : Int64)) hx hb hr (fun t ht hW => ⟨⟨_, M_36, rfl, ⟨hv.symm.trans eV, wM_36⟩, by rw [ht]; exact hP, va_K.moved hW.alike hK⟩, hS.F ht⟩) hS.2.2 dX6_exchange_99
      · have hv := hv.trans (if_neg c_28)
        refine lv_iconst (v := 1) hx hb dX6_exchange_37 (by decide) ?_
        refine lv_goto (tgt := 42) hx hb dX6_exchange_38 (by decide) ?_
        refine lv_istore (lv' := [(5, .int (1 : Int32)), (0, .ref (ad (0))), (1, .int p0), (2, .int p1), (3, .int p2), (4, .int p3)]) hx hb dX6_exchange_42 hl (by decide) rfl (fun ls hl => ?_)
        refine lv_aload_n hx hb dX6_exchange_44 rfl (lv_at hl 1 rfl) ?_
        refine lv_aload_n hx hb dX6_exchange_45 rfl (lv_at hl 1 rfl) ?_
        refine lv_iload_n hx hb dX6_exchange_46 rfl (lv_at hl 2 rfl) ?_
        refine kVi hx hb hml hown hts hK hP hS hA (As := [.int p0]) (rest := [.ref (ad (0))]) (c_X6_isServer l dC dI cA ad hI M  p0 hw0 ) (mkV hts q_994 q_53 q_991 q_993 q_29 hyX6_isServer rfl rfl ⟨(Nat.le_of_ble_eq_true rfl), (Nat.le_of_ble_eq_true rfl)⟩) (w_recv hK hP (k := 0) (by decide) lyM0 (q := (RX6, TX6, 26)) rfl) rfl hl.1 rfl (Nat.le_of_ble_eq_true rfl) dX6_exchange_47 ⟨(Nat.le_of_ble_eq_true rfl), (Nat.le_of_ble_eq_true rfl)⟩ (fun r u H locs hw hP hS _ _ => ?_)
        obtain ⟨hw, hu⟩ := hw
        rw [hu] at hP
        have hv := bnd_name hv hw
        obtain ⟨r_40, er_40⟩ : ∃ z, z = r := ⟨_, rfl⟩
        rw [← er_40] at hv hw
        refine w_eqi er_40.symm ?_
        have gr_40 := hw
        have br_40 : r_40 = 0 ∨ r_40 = 1 := by rw [hw]; exact f_X6_isServer_b M  p0
        refine j0_ne (tgt := 57) hx hb dX6_exchange_50 (by decide) (fun c_41 => ?_) (fun c_41 => ?_)
        · have hv := hv.trans (if_pos c_41)
          refine lv_iconst (v := 1) hx hb dX6_exchange_53 (by decide) ?_
          refine lv_goto (tgt := 92) hx hb dX6_exchange_54 (by decide) ?_
          refine kVi hx hb hml hown hts hK hP hS hA (As := [.int (1 : Int32)]) (rest := []) (c_X6_refused l dC dI cA ad hI M  (1 : Int32) hw0 ) (mkV hts q_913 q_53 q_910 q_912 q_24 hyX6_refused rfl rfl ⟨(Nat.le_of_ble_eq_true rfl), (Nat.le_of_ble_eq_true rfl)⟩) (w_recv hK hP (k := 0) (by decide) lyM0 (q := (RX6, TX6, 26)) rfl) rfl hl.1 rfl (Nat.le_of_ble_eq_true rfl) dX6_exchange_92 ⟨(Nat.le_of_ble_eq_true rfl), (Nat.le_of_ble_eq_true rfl)⟩ (fun r u H locs hw hP hS _ _ => ?_)
          obtain ⟨M_42, eM_42⟩ : ∃ z, z = u := ⟨_, rfl⟩
          rw [← eM_42] at hP hw
          obtain ⟨r_43, er_43⟩ : ∃ z, z = r := ⟨_, rfl⟩
          rw [← er_43] at hw
          refine w_eqi er_43.symm ?_
          obtain ⟨hw, wM_42⟩ := hw
          have gM_42 := hw
          have hv := bnd2_name hv hw
          have lr_43 : r_43 = 1 := congrArg Prod.fst hw
          refine w_eqi lr_43 ?_
          refine j0_eq (tgt := 100) hx hb dX6_exchange_95 (by decide) (fun c_45 => absurd c_45 (by decide)) (fun _ => ?_)
          refine lv_lconst (v := 0) hx hb dX6_exchange_98 (by decide) ?_
          exact W.lret (v := (0 : Int64)) hx hb hr (fun t ht hW => ⟨⟨_, M_42, rfl, ⟨hv.symm.trans eV, wM_42⟩, by rw [ht]; exact hP, va_K.moved hW.alike hK⟩, hS.F ht⟩) hS.2.2 dX6_exchange_99
        · have hv := hv.trans (if_neg c_41)
          refine lv_iload hx hb dX6_exchange_57 (lv_at hl 0 rfl) ?_
          refine j0_ne (tgt := 66) hx hb dX6_exchange_59 (by decide) (fun c_46 => absurd c_46 (by decide)) (fun _ => ?_)
          refine lv_aload_n hx hb dX6_exchange_66 rfl (lv_at hl 1 rfl) ?_
          refine fg_X6_74 hx hb hts hK hP hown dX6_exchange_67 ?_
          refine lv_iload_n hx hb dX6_exchange_70 rfl (lv_at hl 3 rfl) ?_
          refine lv_i2l (v := (p1).toInt64) hx hb dX6_exchange_71 rfl ?_
          refine lv_ladd hx hb dX6_exchange_72 ?_
          refine lv_iload_n hx hb dX6_exchange_73 rfl (lv_at hl 4 rfl) ?_
          refine lv_i2l (v := (p2).toInt64) hx hb dX6_exchange_74 rfl ?_
          refine lv_ladd hx hb dX6_exchange_75 ?_
          refine lv_iload hx hb dX6_exchange_76 (lv_at hl 5 rfl) ?_
          refine lv_i2l (v := (p3).toInt64) hx hb dX6_exchange_78 rfl ?_
          refine lv_ladd hx hb dX6_exchange_79 ?_
          refine lv_ldc2 (v := 1000000000000) hx hb hown (hts _ q_919) dX6_exchange_80 ?_
          refine jL_le (tgt := 91) hx hb dX6_exchange_83 dX6_exchange_84 (by decide) (fun c_47 => ?_) (fun c_47 => ?_)
          · have hv := hv.trans (if_pos c_47)
            refine lv_iconst (v := 3) hx hb dX6_exchange_87 (by decide) ?_
            refine lv_goto (tgt := 92) hx hb dX6_exchange_88 (by decide) ?_
            refine kVi hx hb hml hown hts hK hP hS hA (As := [.int (3 : Int32)]) (rest := []) (c_X6_refused l dC dI cA ad hI M  (3 : Int32) hw0 ) (mkV hts q_913 q_53 q_910 q_912 q_24 hyX6_refused rfl rfl ⟨(Nat.le_of_ble_eq_true rfl), (Nat.le_of_ble_eq_true rfl)⟩) (w_recv hK hP (k := 0) (by decide) lyM0 (q := (RX6, TX6, 26)) rfl) rfl hl.1 rfl (Nat.le_of_ble_eq_true rfl) dX6_exchange_92 ⟨(Nat.le_of_ble_eq_true rfl), (Nat.le_of_ble_eq_true rfl)⟩ (fun r u H locs hw hP hS _ _ => ?_)
            obtain ⟨M_48, eM_48⟩ : ∃ z, z = u := ⟨_, rfl⟩
            rw [← eM_48] at hP hw
            obtain ⟨r_49, er_49⟩ : ∃ z, z = r := ⟨_, rfl⟩
            rw [← er_49] at hw
            refine w_eqi er_49.symm ?_
            obtain ⟨hw, wM_48⟩ := hw
            have gM_48 := hw
            have hv := bnd2_name hv hw
            have lr_49 : r_49 = 1 := congrArg Prod.fst hw
            refine w_eqi lr_49 ?_
            refine j0_eq (tgt := 100) hx hb dX6_exchange_95 (by decide) (fun c_51 => absurd c_51 (by decide)) (fun _ => ?_)
            refine lv_lconst (v := 0) hx hb dX6_exchange_98 (by decide) ?_
            exact W.lret (v := (0 : Int64)) hx hb hr (fun t ht hW => ⟨⟨_, M_48, rfl, ⟨hv.symm.trans eV, wM_48⟩, by rw [ht]; exact hP, va_K.moved hW.alike hK⟩, hS.F ht⟩) hS.2.2 dX6_exchange_99
          · have hv := hv.trans (if_neg c_47)
            refine lv_iconst (v := 0) hx hb dX6_exchange_91 (by decide) ?_
            refine kVi hx hb hml hown hts hK hP hS hA (As := [.int (0 : Int32)]) (rest := []) (c_X6_refused l dC dI cA ad hI M  (0 : Int32) hw0 ) (mkV hts q_913 q_53 q_910 q_912 q_24 hyX6_refused rfl rfl ⟨(Nat.le_of_ble_eq_true rfl), (Nat.le_of_ble_eq_true rfl)⟩) (w_recv hK hP (k := 0) (by decide) lyM0 (q := (RX6, TX6, 26)) rfl) rfl hl.1 rfl (Nat.le_of_ble_eq_true rfl) dX6_exchange_92 ⟨(Nat.le_of_ble_eq_true rfl), (Nat.le_of_ble_eq_true rfl)⟩ (fun r u H locs hw hP hS _ _ => ?_)
            obtain ⟨M_52, eM_52⟩ : ∃ z, z = u := ⟨_, rfl⟩
            rw [← eM_52] at hP hw
            obtain ⟨r_53, er_53⟩ : ∃ z, z = r := ⟨_, rfl⟩
            rw [← er_53] at hw
            refine w_eqi er_53.symm ?_
            obtain ⟨hw, wM_52⟩ := hw
            have gM_52 := hw
            have hv := bnd2_name hv hw
            have lr_53 : r_53 = 0 := congrArg Prod.fst hw
            refine w_eqi lr_53 ?_
            refine j0_eq (tgt := 100) hx hb dX6_exchange_95 (by decide) (fun _ => ?_) (fun c_55 => absurd (by decide) c_55)
            obtain ⟨j0, hj0, e9⟩ := (srv_of hw0 (by rw [← gr_40]; exact c_41) : ∃ j, _ ∧ p0 = nI j)
            subst e9
            have hv := bnd_name hv (show j0 = (nI j0).toNatClampNeg from (nI_clamp (by omega)).symm)
            refine lv_aload_n hx hb dX6_exchange_100 rfl (lv_at hl 1 rfl) ?_
            refine kVl hx hb hml hown hts hK hP hS hA (As := []) (rest := []) (c_X6_reading l dC dI cA ad hI M_52   wM_52 ) (mkV hts q_928 q_53 q_925 q_927 q_26 hyX6_reading rfl rfl ⟨(Nat.le_of_ble_eq_true rfl), (Nat.le_of_ble_eq_true rfl)⟩) (w_recv hK hP (k := 0) (by decide) lyM0 (q := (RX6, TX6, 26)) rfl) rfl hl.1 rfl (Nat.le_of_ble_eq_true rfl) dX6_exchange_101 ⟨(Nat.le_of_ble_eq_true rfl), (Nat.le_of_ble_eq_true rfl)⟩ (fun r u H locs hw hP hS _ _ => ?_)
            obtain ⟨hw, hu⟩ := hw
            rw [hu] at hP
            have hv := bnd_name hv hw
            obtain ⟨r_56, er_56⟩ : ∃ z, z = r := ⟨_, rfl⟩
            rw [← er_56] at hv hw
            refine w_eql er_56.symm ?_
            have gr_56 := hw
            refine lv_lstore (lv' := [(6, .long r_56), (5, .int (1 : Int32)), (0, .ref (ad (0))), (1, .int (nI j0)), (2, .int p1), (3, .int p2), (4, .int p3)]) hx hb dX6_exchange_104 hl (by decide) rfl (fun ls hl => ?_)
            refine lv_aload_n hx hb dX6_exchange_106 rfl (lv_at hl 2 rfl) ?_
            refine lv_iload_n hx hb dX6_exchange_107 rfl (lv_at hl 4 rfl) ?_
            refine kVv hx hb hml hown hts hK hP hS hA (As := [.int p1]) (rest := []) (c_X6_goOn l dC dI cA ad hI M_52  p1 wM_52 ) (mkV hts q_923 q_53 q_920 q_922 q_25 hyX6_goOn rfl rfl ⟨(Nat.le_of_ble_eq_true rfl), (Nat.le_of_ble_eq_true rfl)⟩) (w_recv hK hP (k := 0) (by decide) lyM0 (q := (RX6, TX6, 26)) rfl) rfl hl.1 rfl (Nat.le_of_ble_eq_true rfl) dX6_exchange_108 ⟨(Nat.le_of_ble_eq_true rfl), (Nat.le_of_ble_eq_true rfl)⟩ (fun u H locs hw hP hS _ _ => ?_)
            obtain ⟨M_57, eM_57⟩ : ∃ z, z = u := ⟨_, rfl⟩
            rw [← eM_57] at hP hw
            obtain ⟨hw, wM_57⟩ := hw
            have gM_57 := hw
            have hv := bnd_name hv hw
            refine lv_aload_n hx hb dX6_exchange_111 rfl (lv_at hl 2 rfl) ?_
            refine fg_X6_74 hx hb hts hK hP hown dX6_exchange_112 ?_
            refine lv_aload_n hx hb dX6_exchange_115 rfl (lv_at hl 2 rfl) ?_
            refine fg_X6_20 hx hb hts hK hP hown dX6_exchange_116 ?_
            refine lv_iload_n hx hb dX6_exchange_119 rfl (lv_at hl 3 rfl) ?_
            refine w_ialdN hx hb hK hP (k := 3) (by decide) lyM3 (i := j0) (by omega) (by decide) dX6_exchange_120 ?_
            refine lv_i2l (v := (gB M_57 2 (j0)).toInt64) hx hb dX6_exchange_121 rfl ?_
            refine lv_ladd hx hb dX6_exchange_122 ?_
            refine lv_topl (fun x_58 ex_58 => ?_)
            have hv := bnd_name hv ex_58
            refine lv_lstore (lv' := [(8, .long x_58), (6, .long r_56), (5, .int (1 : Int32)), (0, .ref (ad (0))), (1, .int (nI j0)), (2, .int p1), (3, .int p2), (4, .int p3)]) hx hb dX6_exchange_123 hl (by decide) rfl (fun ls hl => ?_)
            refine lv_aload_n hx hb dX6_exchange_125 rfl (lv_at hl 3 rfl) ?_
            refine lv_iload_n hx hb dX6_exchange_126 rfl (lv_at hl 6 rfl) ?_
            refine kVv hx hb hml hown hts hK hP hS hA (As := [.int p2]) (rest := []) (c_X6_goOn l dC dI cA ad hI M_57  p2 wM_57 ) (mkV hts q_923 q_53 q_920 q_922 q_25 hyX6_goOn rfl rfl ⟨(Nat.le_of_ble_eq_true rfl), (Nat.le_of_ble_eq_true rfl)⟩) (w_recv hK hP (k := 0) (by decide) lyM0 (q := (RX6, TX6, 26)) rfl) rfl hl.1 rfl (Nat.le_of_ble_eq_true rfl) dX6_exchange_127 ⟨(Nat.le_of_ble_eq_true rfl), (Nat.le_of_ble_eq_true rfl)⟩ (fun u H locs hw hP hS _ _ => ?_)
            obtain ⟨M_59, eM_59⟩ : ∃ z, z = u := ⟨_, rfl⟩
            rw [← eM_59] at hP hw
            obtain ⟨hw, wM_59⟩ := hw
            have gM_59 := hw
            have hv := bnd_name hv hw
            refine lv_aload_n hx hb dX6_exchange_130 rfl (lv_at hl 3 rfl) ?_
            refine fg_X6_74 hx hb hts hK hP hown dX6_exchange_131 ?_
            refine lv_aload_n hx hb dX6_exchange_134 rfl (lv_at hl 3 rfl) ?_
            refine fg_X6_20 hx hb hts hK hP hown dX6_exchange_135 ?_
            refine lv_iload_n hx hb dX6_exchange_138 rfl (lv_at hl 4 rfl) ?_
            refine w_ialdN hx hb hK hP (k := 3) (by decide) lyM3 (i := j0) (by omega) (by decide) dX6_exchange_139 ?_
            refine lv_i2l (v := (gB M_59 2 (j0)).toInt64) hx hb dX6_exchange_140 rfl ?_
            refine lv_ladd hx hb dX6_exchange_141 ?_
            refine lv_topl (fun x_60 ex_60 => ?_)
            have hv := bnd_name hv ex_60
            refine lv_lstore (lv' := [(10, .long x_60), (8, .long x_58), (6, .long r_56), (5, .int (1 : Int32)), (0, .ref (ad (0))), (1, .int (nI j0)), (2, .int p1), (3, .int p2), (4, .int p3)]) hx hb dX6_exchange_142 hl (by decide) rfl (fun ls hl => ?_)
            refine lv_aload_n hx hb dX6_exchange_144 rfl (lv_at hl 4 rfl) ?_
            refine lv_iload hx hb dX6_exchange_145 (lv_at hl 8 rfl) ?_
            refine kVv hx hb hml hown hts hK hP hS hA (As := [.int p3]) (rest := []) (c_X6_goOn l dC dI cA ad hI M_59  p3 wM_59 ) (mkV hts q_923 q_53 q_920 q_922 q_25 hyX6_goOn rfl rfl ⟨(Nat.le_of_ble_eq_true rfl), (Nat.le_of_ble_eq_true rfl)⟩) (w_recv hK hP (k := 0) (by decide) lyM0 (q := (RX6, TX6, 26)) rfl) rfl hl.1 rfl (Nat.le_of_ble_eq_true rfl) dX6_exchange_147 ⟨(Nat.le_of_ble_eq_true rfl), (Nat.le_of_ble_eq_true rfl)⟩ (fun u H locs hw hP hS _ _ => ?_)
            obtain ⟨M_61, eM_61⟩ : ∃ z, z = u := ⟨_, rfl⟩
            rw [← eM_61] at hP hw
            obtain ⟨hw, wM_61⟩ := hw
            have gM_61 := hw
            have hv := bnd_name hv hw
            refine lv_aload_n hx hb dX6_exchange_150 rfl (lv_at hl 4 rfl) ?_
            refine kVl hx hb hml hown hts hK hP hS hA (As := []) (rest := []) (c_X6_reading l dC dI cA ad hI M_61   wM_61 ) (mkV hts q_928 q_53 q_925 q_927 q_26 hyX6_reading rfl rfl ⟨(Nat.le_of_ble_eq_true rfl), (Nat.le_of_ble_eq_true rfl)⟩) (w_recv hK hP (k := 0) (by decide) lyM0 (q := (RX6, TX6, 26)) rfl) rfl hl.1 rfl (Nat.le_of_ble_eq_true rfl) dX6_exchange_151 ⟨(Nat.le_of_ble_eq_true rfl), (Nat.le_of_ble_eq_true rfl)⟩ (fun r u H locs hw hP hS _ _ => ?_)
            obtain ⟨hw, hu⟩ := hw
            rw [hu] at hP
            have hv := bnd_name hv hw
            obtain ⟨r_62, er_62⟩ : ∃ z, z = r := ⟨_, rfl⟩
            rw [← er_62] at hv hw
            refine w_eql er_62.symm ?_
            have gr_62 := hw
            refine lv_lstore (lv' := [(12, .long r_62), (10, .long x_60), (8, .long x_58), (6, .long r_56), (5, .int (1 : Int32)), (0, .ref (ad (0))), (1, .int (nI j0)), (2, .int p1), (3, .int p2), (4, .int p3)]) hx hb dX6_exchange_154 hl (by decide) rfl (fun ls hl => ?_)
            refine lv_lload hx hb dX6_exchange_156 (lv_at hl 0 rfl) ?_
            refine lv_lload hx hb dX6_exchange_158 (lv_at hl 3 rfl) ?_
            refine lv_lsub hx hb dX6_exchange_160 ?_
            refine lv_lload hx hb dX6_exchange_161 (lv_at hl 1 rfl) ?_
            refine lv_lload hx hb dX6_exchange_163 (lv_at hl 2 rfl) ?_
            refine lv_lsub hx hb dX6_exchange_165 ?_
            refine lv_lsub hx hb dX6_exchange_166 ?_
            refine lv_topl (fun x_63 ex_63 => ?_)
            have hv := bnd_name hv ex_63
            refine lv_lstore (lv' := [(14, .long x_63), (12, .long r_62), (10, .long x_60), (8, .long x_58), (6, .long r_56), (5, .int (1 : Int32)), (0, .ref (ad (0))), (1, .int (nI j0)), (2, .int p1), (3, .int p2), (4, .int p3)]) hx hb dX6_exchange_167 hl (by decide) rfl (fun ls hl => ?_)
            refine lv_lload hx hb dX6_exchange_169 (lv_at hl 0 rfl) ?_
            refine lv_lconst (v := 0) hx hb dX6_exchange_171 (by decide) ?_
            refine jL_ge (tgt := 180) hx hb dX6_exchange_172 dX6_exchange_173 (by decide) (fun c_64 => ?_) (fun c_64 => ?_)
            · have hv := hv.trans (if_pos c_64)
              refine lv_lconst (v := 0) hx hb dX6_exchange_176 (by decide) ?_
              refine lv_goto (tgt := 182) hx hb dX6_exchange_177 (by decide) ?_
              refine lv_lstore (lv' := [(14, .long (0 : Int64)), (12, .long r_62), (10, .long x_60), (8, .long x_58), (6, .long r_56), (5, .int (1 : Int32)), (0, .ref (ad (0))), (1, .int (nI j0)), (2, .int p1), (3, .int p2), (4, .int p3)]) hx hb dX6_exchange_182 hl (by decide) rfl (fun ls hl => ?_)
              refine lv_aload_n hx hb dX6_exchange_184 rfl (lv_at hl 6 rfl) ?_
              refine lv_iload_n hx hb dX6_exchange_185 rfl (lv_at hl 7 rfl) ?_
              refine lv_lload hx hb dX6_exchange_186 (lv_at hl 3 rfl) ?_
              refine lv_lload hx hb dX6_exchange_188 (lv_at hl 4 rfl) ?_
              refine lv_lsub hx hb dX6_exchange_190 ?_
              refine lv_lload hx hb dX6_exchange_191 (lv_at hl 2 rfl) ?_
              refine lv_lload hx hb dX6_exchange_193 (lv_at hl 1 rfl) ?_
              refine lv_lsub hx hb dX6_exchange_195 ?_
              refine lv_ladd hx hb dX6_exchange_196 ?_
              refine lv_ldc2 (v := 2) hx hb hown (hts _ q_1001) dX6_exchange_197 ?_
              refine kSl hx hb hml hown hts (As := [.long ((x_58 - r_56) + (x_60 - r_62)), .long (2 : Int64)]) (rest := [.int (nI j0), .ref (ad (0))]) (c_X6_down l ((x_58 - r_56) + (x_60 - r_62)) (2 : Int64) (by decide)) (mkS hts q_931 q_53 q_929 q_930 hyX6_down rfl rfl ⟨(Nat.le_of_ble_eq_true rfl), (Nat.le_of_ble_eq_true rfl)⟩) rfl hl.1 rfl (Nat.le_of_ble_eq_true rfl) dX6_exchange_200 ⟨(Nat.le_of_ble_eq_true rfl), (Nat.le_of_ble_eq_true rfl)⟩ ?_
              refine lv_topl (fun x_65 ex_65 => ?_)
              have hv := bnd_name hv ex_65
              refine lv_lload hx hb dX6_exchange_203 (lv_at hl 0 rfl) ?_
              refine lv_lload hx hb dX6_exchange_205 (lv_at hl 1 rfl) ?_
              refine kVv hx hb hml hown hts hK hP hS hA (As := [.int (nI j0), .long x_65, .long (0 : Int64), .long r_62]) (rest := []) (c_X6_keep l dC dI cA ad hI M_61  (j0) (by omega) x_65 (0 : Int64) r_62 wM_61 ) (mkV hts q_1005 q_53 q_1002 q_1004 q_30 hyX6_keep rfl rfl ⟨(Nat.le_of_ble_eq_true rfl), (Nat.le_of_ble_eq_true rfl)⟩) (w_recv hK hP (k := 0) (by decide) lyM0 (q := (RX6, TX6, 26)) rfl) rfl hl.1 rfl (Nat.le_of_ble_eq_true rfl) dX6_exchange_207 ⟨(Nat.le_of_ble_eq_true rfl), (Nat.le_of_ble_eq_true rfl)⟩ (fun u H locs hw hP hS _ _ => ?_)
              obtain ⟨M_66, eM_66⟩ : ∃ z, z = u := ⟨_, rfl⟩
              rw [← eM_66] at hP hw
              obtain ⟨hw, wM_66⟩ := hw
              have gM_66 := hw
              have hv := bnd_name hv hw
              refine lv_lload hx hb dX6_exchange_210 (lv_at hl 0 rfl) ?_
              exact W.lret (v := (0 : Int64)) hx hb hr (fun t ht hW => ⟨⟨_, M_66, rfl, ⟨hv.symm.trans eV, wM_66⟩, by rw [ht]; exact hP, va_K.moved hW.alike hK⟩, hS.F ht⟩) hS.2.2 dX6_exchange_212
            · have hv := hv.trans (if_neg c_64)
              refine lv_lload hx hb dX6_exchange_180 (lv_at hl 0 rfl) ?_
              refine lv_lstore (lv' := [(14, .long x_63), (12, .long r_62), (10, .long x_60), (8, .long x_58), (6, .long r_56), (5, .int (1 : Int32)), (0, .ref (ad (0))), (1, .int (nI j0)), (2, .int p1), (3, .int p2), (4, .int p3)]) hx hb dX6_exchange_182 hl (by decide) rfl (fun ls hl => ?_)
              refine lv_aload_n hx hb dX6_exchange_184 rfl (lv_at hl 6 rfl) ?_
              refine lv_iload_n hx hb dX6_exchange_185 rfl (lv_at hl 7 rfl) ?_
              refine lv_lload hx hb dX6_exchange_186 (lv_at hl 3 rfl) ?_
              refine lv_lload hx hb dX6_exchange_188 (lv_at hl 4 rfl) ?_
              refine lv_lsub hx hb dX6_exchange_190 ?_
              refine lv_lload hx hb dX6_exchange_191 (lv_at hl 2 rfl) ?_
              refine lv_lload hx hb dX6_exchange_193 (lv_at hl 1 rfl) ?_
              refine lv_lsub hx hb dX6_exchange_195 ?_
              refine lv_ladd hx hb dX6_exchange_196 ?_
              refine lv_ldc2 (v := 2) hx hb hown (hts _ q_1001) dX6_exchange_197 ?_
              refine kSl hx hb hml hown hts (As := [.long ((x_58 - r_56) + (x_60 - r_62)), .long (2 : Int64)]) (rest := [.int (nI j0), .ref (ad (0))]) (c_X6_down l ((x_58 - r_56) + (x_60 - r_62)) (2 : Int64) (by decide)) (mkS hts q_931 q_53 q_929 q_930 hyX6_down rfl rfl ⟨(Nat.le_of_ble_eq_true rfl), (Nat.le_of_ble_eq_true rfl)⟩) rfl hl.1 rfl (Nat.le_of_ble_eq_true rfl) dX6_exchange_200 ⟨(Nat.le_of_ble_eq_true rfl), (Nat.le_of_ble_eq_true rfl)⟩ ?_
              refine lv_topl (fun x_67 ex_67 => ?_)
              have hv := bnd_name hv ex_67
              refine lv_lload hx hb dX6_exchange_203 (lv_at hl 0 rfl) ?_
              refine lv_lload hx hb dX6_exchange_205 (lv_at hl 1 rfl) ?_
              refine kVv hx hb hml hown hts hK hP hS hA (As := [.int (nI j0), .long x_67, .long x_63, .long r_62]) (rest := []) (c_X6_keep l dC dI cA ad hI M_61  (j0) (by omega) x_67 x_63 r_62 wM_61 ) (mkV hts q_1005 q_53 q_1002 q_1004 q_30 hyX6_keep rfl rfl ⟨(Nat.le_of_ble_eq_true rfl), (Nat.le_of_ble_eq_true rfl)⟩) (w_recv hK hP (k := 0) (by decide) lyM0 (q := (RX6, TX6, 26)) rfl) rfl hl.1 rfl (Nat.le_of_ble_eq_true rfl) dX6_exchange_207 ⟨(Nat.le_of_ble_eq_true rfl), (Nat.le_of_ble_eq_true rfl)⟩ (fun u H locs hw hP hS _ _ => ?_)
              obtain ⟨M_68, eM_68⟩ : ∃ z, z = u := ⟨_, rfl⟩
              rw [← eM_68] at hP hw
              obtain ⟨hw, wM_68⟩ := hw
              have gM_68 := hw
              have hv := bnd_name hv hw
              refine lv_lload hx hb dX6_exchange_210 (lv_at hl 0 rfl) ?_
              exact W.lret (v := x_63) hx hb hr (fun t ht hW => ⟨⟨_, M_68, rfl, ⟨hv.symm.trans eV, wM_68⟩, by rw [ht]; exact hP, va_K.moved hW.alike hK⟩, hS.F ht⟩) hS.2.2 dX6_exchange_212
def f_X6_servers (M : Mem)  : Int32 × Mem := bnd2 (f_X6_fine M  (nI (sn M))) fun r_3 M_2 => (r_3, M_2)
theorem hyX6_servers : yX6_servers.cls ≠ "java/lang/invoke/MethodHandle" ∧ yX6_servers.cls ≠ "java/lang/invoke/VarHandle" ∧ (parseMethodDescriptor yX6_servers.desc).map (fun d => d.parameters.length) = some 0 := by decide +kernel
set_option maxHeartbeats 4000000 in
set_option maxRecDepth 100000 in
theorem c_X6_servers (l : Launch) (dC : Nat → ClassId) (dI : Nat → Nat → Nat) (cA : Nat → ClassId) (ad : Nat → Nat) (hI : Inj 12 ad) (M : Mem) (hw0 : WFm M)  : Met l yX6_servers (.code yX6_servers cX6_servers 1 (some .int) :: AG) ({ frames := 1, cells := 0, slots := 0, locals := 21 } : Room) (va_Pc [.ref (ad (0))] (PM dC dI cA ad M)) (va_Qi (fun r u => (r, u) = f_X6_servers M  ∧ WFm u) (PM dC dI cA ad) (adS 12 ad)) 0 0 (adS 12 ad) := by
  refine cMet (by decide) (Nat.le_of_ble_eq_true rfl) ?_
  intro p e s m below meth c ls hx hb hr hml hlocks hown hts hK hP hS hl
  have hA : ∀ q, adS 12 ad q → adS 12 ad q := fun _ h => h
  have hl : lv_has ls 1 [(0, .ref (ad (0)))] := hl
  obtain ⟨V, eV⟩ : ∃ z, z = f_X6_servers M  := ⟨_, rfl⟩
  have hv := eV
  unfold f_X6_servers at hv
  refine lv_aload_n hx hb dX6_servers_0 rfl (lv_at hl 0 rfl) ?_
  refine lv_aload_n hx hb dX6_servers_1 rfl (lv_at hl 0 rfl) ?_
  refine fg_X6_95 hx hb hts hK hP hown dX6_servers_2 ?_
  have q_1 := (WFs hw0).1
  refine w_eqi (y := nI (sn M)) (WFs hw0).2 ?_
  refine kVi hx hb hml hown hts hK hP hS hA (As := [.int (nI (sn M))]) (rest := []) (c_X6_fine l dC dI cA ad hI M  (nI (sn M)) hw0 ) (mkV hts q_965 q_53 q_962 q_964 q_28 hyX6_fine rfl rfl ⟨(Nat.le_of_ble_eq_true rfl), (Nat.le_of_ble_eq_true rfl)⟩) (w_recv hK hP (k := 0) (by decide) lyM0 (q := (RX6, TX6, 26)) rfl) rfl hl.1 rfl (Nat.le_of_ble_eq_true rfl) dX6_servers_5 ⟨(Nat.le_of_ble_eq_true rfl), (Nat.le_of_ble_eq_true rfl)⟩ (fun r u H locs hw hP hS _ _ => ?_)
  obtain ⟨M_2, eM_2⟩ : ∃ z, z = u := ⟨_, rfl⟩
  rw [← eM_2] at hP hw
  obtain ⟨r_3, er_3⟩ : ∃ z, z = r := ⟨_, rfl⟩
  rw [← er_3] at hw
  refine w_eqi er_3.symm ?_
  obtain ⟨hw, wM_2⟩ := hw
  have gM_2 := hw
  have hv := bnd2_name hv hw
  exact W.iret (v := r_3) hx hb hr (fun t ht hW => ⟨⟨_, M_2, rfl, ⟨hv.symm.trans eV, wM_2⟩, by rw [ht]; exact hP, va_K.moved hW.alike hK⟩, hS.F ht⟩) hS.2.2 dX6_servers_8
def f_X6_samples (M : Mem) (p0 : Int32) : Int32 × Mem := bnd (f_X6_isServer M  p0) fun r_1 => if r_1 = (0 : Int32) then bnd2 (f_X6_refused M  (1 : Int32)) fun r_4 M_3 => ((0 : Int32), M_3) else bnd2 (f_X6_refused M  (0 : Int32)) fun r_8 M_7 => bnd ((p0).toNatClampNeg) fun j0 => (nI (kn M_7 (j0)), M_7)
theorem hyX6_samples : yX6_samples.cls ≠ "java/lang/invoke/MethodHandle" ∧ yX6_samples.cls ≠ "java/lang/invoke/VarHandle" ∧ (parseMethodDescriptor yX6_samples.desc).map (fun d => d.parameters.length) = some 1 := by decide +kernel
set_option maxHeartbeats 4000000 in
set_option maxRecDepth 100000 in
theorem c_X6_samples (l : Launch) (dC : Nat → ClassId) (dI : Nat → Nat → Nat) (cA : Nat → ClassId) (ad : Nat → Nat) (hI : Inj 12 ad) (M : Mem) (p0 : Int32) (hw0 : WFm M)  : Met l yX6_samples (.code yX6_samples cX6_samples 2 (some .int) :: AG) ({ frames := 2, cells := 0, slots := 0, locals := 46 } : Room) (va_Pc [.ref (ad (0)), .int p0] (PM dC dI cA ad M)) (va_Qi (fun r u => (r, u) = f_X6_samples M p0 ∧ WFm u) (PM dC dI cA ad) (adS 12 ad)) 0 0 (adS 12 ad) := by
  refine cMet (by decide) (Nat.le_of_ble_eq_true rfl) ?_
  intro p e s m below meth c ls hx hb hr hml hlocks hown hts hK hP hS hl
  have hA : ∀ q, adS 12 ad q → adS 12 ad q := fun _ h => h
  have hl : lv_has ls 2 [(0, .ref (ad (0))), (1, .int p0)] := hl
  obtain ⟨V, eV⟩ : ∃ z, z = f_X6_samples M p0 := ⟨_, rfl⟩
  have hv := eV
  unfold f_X6_samples at hv
  refine lv_aload_n hx hb dX6_samples_0 rfl (lv_at hl 0 rfl) ?_
  refine lv_aload_n hx hb dX6_samples_1 rfl (lv_at hl 0 rfl) ?_
  refine lv_iload_n hx hb dX6_samples_2 rfl (lv_at hl 1 rfl) ?_
  refine kVi hx hb hml hown hts hK hP hS hA (As := [.int p0]) (rest := [.ref (ad (0))]) (c_X6_isServer l dC dI cA ad hI M  p0 hw0 ) (mkV hts q_994 q_53 q_991 q_993 q_29 hyX6_isServer rfl rfl ⟨(Nat.le_of_ble_eq_true rfl), (Nat.le_of_ble_eq_true rfl)⟩) (w_recv hK hP (k := 0) (by decide) lyM0 (q := (RX6, TX6, 26)) rfl) rfl hl.1 rfl (Nat.le_of_ble_eq_true rfl) dX6_samples_3 ⟨(Nat.le_of_ble_eq_true rfl), (Nat.le_of_ble_eq_true rfl)⟩ (fun r u H locs hw hP hS _ _ => ?_)
  obtain ⟨hw, hu⟩ := hw
  rw [hu] at hP
  have hv := bnd_name hv hw
  obtain ⟨r_1, er_1⟩ : ∃ z, z = r := ⟨_, rfl⟩
  rw [← er_1] at hv hw
  refine w_eqi er_1.symm ?_
  have gr_1 := hw
  have br_1 : r_1 = 0 ∨ r_1 = 1 := by rw [hw]; exact f_X6_isServer_b M  p0
  refine j0_eq (tgt := 13) hx hb dX6_samples_6 (by decide) (fun c_2 => ?_) (fun c_2 => ?_)
  · have hv := hv.trans (if_pos c_2)
    refine lv_iconst (v := 1) hx hb dX6_samples_13 (by decide) ?_
    refine kVi hx hb hml hown hts hK hP hS hA (As := [.int (1 : Int32)]) (rest := []) (c_X6_refused l dC dI cA ad hI M  (1 : Int32) hw0 ) (mkV hts q_913 q_53 q_910 q_912 q_24 hyX6_refused rfl rfl ⟨(Nat.le_of_ble_eq_true rfl), (Nat.le_of_ble_eq_true rfl)⟩) (w_recv hK hP (k := 0) (by decide) lyM0 (q := (RX6, TX6, 26)) rfl) rfl hl.1 rfl (Nat.le_of_ble_eq_true rfl) dX6_samples_14 ⟨(Nat.le_of_ble_eq_true rfl), (Nat.le_of_ble_eq_true rfl)⟩ (fun r u H locs hw hP hS _ _ => ?_)
    obtain ⟨M_3, eM_3⟩ : ∃ z, z = u := ⟨_, rfl⟩
    rw [← eM_3] at hP hw
    obtain ⟨r_4, er_4⟩ : ∃ z, z = r := ⟨_, rfl⟩
    rw [← er_4] at hw
    refine w_eqi er_4.symm ?_
    obtain ⟨hw, wM_3⟩ := hw
    have gM_3 := hw
    have hv := bnd2_name hv hw
    have lr_4 : r_4 = 1 := congrArg Prod.fst hw
    refine w_eqi lr_4 ?_
    refine j0_eq (tgt := 24) hx hb dX6_samples_17 (by decide) (fun c_6 => absurd c_6 (by decide)) (fun _ => ?_)
    refine lv_iconst (v := 0) hx hb dX6_samples_20 (by decide) ?_
    refine lv_goto (tgt := 30) hx hb dX6_samples_21 (by decide) ?_
    exact W.iret (v := (0 : Int32)) hx hb hr (fun t ht hW => ⟨⟨_, M_3, rfl, ⟨hv.symm.trans eV, wM_3⟩, by rw [ht]; exact hP, va_K.moved hW.alike hK⟩, hS.F ht⟩) hS.2.2 dX6_samples_30
  · have hv := hv.trans (if_neg c_2)
    refine lv_iconst (v := 0) hx hb dX6_samples_9 (by decide) ?_
    refine lv_goto (tgt := 14) hx hb dX6_samples_10 (by decide) ?_
    refine kVi hx hb hml hown hts hK hP hS hA (As := [.int (0 : Int32)]) (rest := []) (c_X6_refused l dC dI cA ad hI M  (0 : Int32) hw0 ) (mkV hts q_913 q_53 q_910 q_912 q_24 hyX6_refused rfl rfl ⟨(Nat.le_of_ble_eq_true rfl), (Nat.le_of_ble_eq_true rfl)⟩) (w_recv hK hP (k := 0) (by decide) lyM0 (q := (RX6, TX6, 26)) rfl) rfl hl.1 rfl (Nat.le_of_ble_eq_true rfl) dX6_samples_14 ⟨(Nat.le_of_ble_eq_true rfl), (Nat.le_of_ble_eq_true rfl)⟩ (fun r u H locs hw hP hS _ _ => ?_)
    obtain ⟨M_7, eM_7⟩ : ∃ z, z = u := ⟨_, rfl⟩
    rw [← eM_7] at hP hw
    obtain ⟨r_8, er_8⟩ : ∃ z, z = r := ⟨_, rfl⟩
    rw [← er_8] at hw
    refine w_eqi er_8.symm ?_
    obtain ⟨hw, wM_7⟩ := hw
    have gM_7 := hw
    have hv := bnd2_name hv hw
    have lr_8 : r_8 = 0 := congrArg Prod.fst hw
    refine w_eqi lr_8 ?_
    refine j0_eq (tgt := 24) hx hb dX6_samples_17 (by decide) (fun _ => ?_) (fun c_10 => absurd (by decide) c_10)
    obtain ⟨j0, hj0, e9⟩ := (srv_of hw0 (by rw [← gr_1]; exact c_2) : ∃ j, _ ∧ p0 = nI j)
    subst e9
    have hv := bnd_name hv (show j0 = (nI j0).toNatClampNeg from (nI_clamp (by omega)).symm)
    refine lv_aload_n hx hb dX6_samples_24 rfl (lv_at hl 0 rfl) ?_
    refine fg_X6_29 hx hb hts hK hP hown dX6_samples_25 ?_
    refine lv_iload_n hx hb dX6_samples_28 rfl (lv_at hl 1 rfl) ?_
    refine w_ialdN hx hb hK hP (k := 6) (by decide) lyM6 (i := j0) (by omega) (by decide) dX6_samples_29 ?_
    have q_11 := (WFk wM_7 (j := j0) (by omega)).1
    refine w_eqi (y := nI (kn M_7 (j0))) (WFk wM_7 (j := j0) (by omega)).2 ?_
    exact W.iret (v := nI (kn M_7 (j0))) hx hb hr (fun t ht hW => ⟨⟨_, M_7, rfl, ⟨hv.symm.trans eV, wM_7⟩, by rw [ht]; exact hP, va_K.moved hW.alike hK⟩, hS.F ht⟩) hS.2.2 dX6_samples_30

