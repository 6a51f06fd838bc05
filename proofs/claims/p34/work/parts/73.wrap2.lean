theorem hyL_started : yL_started.cls ≠ "java/lang/invoke/MethodHandle" ∧ yL_started.cls ≠ "java/lang/invoke/VarHandle" ∧ (parseMethodDescriptor yL_started.desc).map (fun d => d.parameters.length) = some 2 := by decide +kernel
set_option maxHeartbeats 4000000 in
set_option maxRecDepth 100000 in
theorem c_L_started (l : Launch) (hfl : l.stackTraces = false) (dC : Nat → ClassId) (dI : Nat → Nat → Nat) (cA : Nat → ClassId) (ad : Nat → Nat) (hI : Inj 69 ad) (M : Mem) (p0 : Int32) : Met l yL_started (.codeWith yL_started cL_started 3 (some .int) [(0, 5, 8, 13)] :: AG) ({ frames := 7, cells := 1, slots := 6, locals := 102 } : Room) (va_Pc [.ref (ad (0)), .int p0] (PWz dC dI cA ad M)) (va_Qi (fun r u => (r, u) = wV (f_X5_restart M p0)) (PC dC dI cA ad) (adS 69 ad)) 1 6 (adS 69 ad) := by
  refine zMet (by decide) (Nat.le_of_ble_eq_true rfl) ?_
  intro p e s m below meth c ls hx hb hr hml hlocks hown hts hK hP hS hl hKX hNC htab
  have hl : lv_has ls 3 [(0, .ref (ad (0))), (1, .int p0)] := hl
  refine lv_aload_n hx hb dL_started_0 rfl (lv_at hl 0 rfl) ?_
  refine lv_iload_n hx hb dL_started_1 rfl (lv_at hl 1 rfl) ?_
  refine kXv hx hb hml hown hts hK hP hS hKX (As := [.int p0]) (rest := []) (c_X5_restart l hfl dC dI cA ad hI M p0) (mkV hts q_244 q_25 q_241 q_242 q_243 hyX5_restart rfl rfl ⟨(Nat.le_of_ble_eq_true rfl), (Nat.le_of_ble_eq_true rfl)⟩) (w_recv hK hP (k := 0) (by decide) lyC0 (q := (RX5, TX5, 10)) rfl) rfl hl.1 rfl (Nat.le_of_ble_eq_true rfl) dL_started_2 ⟨(Nat.le_of_ble_eq_true rfl), (Nat.le_of_ble_eq_true rfl)⟩ (fun n u H locs ce q9 hn hw hP hS _ hk hce hcv hcl => ?_) (fun u H locs hw hP hS _ hk => ?_)
  · have hc9 := f_X5_restart_c M p0
    rw [← hw] at hc9
    have hc9 : n = 1 := by simpa [inC, hn] using hc9
    subst hc9
    refine vx_catch (own := RL) (name := "java/lang/IllegalArgumentException") (E := "java/lang/IllegalArgumentException") hown [] ⟨0, 5, 8, 13⟩ [] htab (fun z hz => nomatch hz) rfl (by decide) (hts _ q_240) (va_Nw.use rfl (hKX.2.2 (.castable "java/lang/IllegalArgumentException" "java/lang/IllegalArgumentException") (List.mem_filter.mpr ⟨by decide +kernel, rfl⟩))) hce hcv hcl ?_
    refine lv_astore_n (lv' := [(2, .ref q9), (0, .ref (ad (0))), (1, .int p0)]) hx hb dL_started_8 rfl hl (by decide) rfl (fun ls hl => ?_)
    refine lv_ldc (v := (-9999002)) hx hb hown (hts _ q_313) dL_started_9 ?_
    exact W.iret (v := (-9999002)) hx hb hr (fun t ht hW => ⟨⟨(-9999002), u, rfl, wV_thr hw (by decide) (by decide), by rw [ht]; exact hP, va_K.moved hW.alike hK⟩, hS.F ht⟩) hS.2.2 dL_started_11
  · refine lv_goto (tgt := 12) hx hb dL_started_5 (by decide) ?_
    refine lv_iconst (v := 0) hx hb dL_started_12 (by decide) ?_
    exact W.iret (v := 0) hx hb hr (fun t ht hW => ⟨⟨0, u, rfl, wV_ret hw, by rw [ht]; exact hP, va_K.moved hW.alike hK⟩, hS.F ht⟩) hS.2.2 dL_started_13
theorem hyL_passed : yL_passed.cls ≠ "java/lang/invoke/MethodHandle" ∧ yL_passed.cls ≠ "java/lang/invoke/VarHandle" ∧ (parseMethodDescriptor yL_passed.desc).map (fun d => d.parameters.length) = some 2 := by decide +kernel
set_option maxHeartbeats 4000000 in
set_option maxRecDepth 100000 in
theorem c_L_passed (l : Launch) (hfl : l.stackTraces = false) (dC : Nat → ClassId) (dI : Nat → Nat → Nat) (cA : Nat → ClassId) (ad : Nat → Nat) (hI : Inj 69 ad) (M : Mem) (p0 : Int32) : Met l yL_passed (.codeWith yL_passed cL_passed 3 (some .long) [(0, 5, 6, 13), (0, 5, 11, 22)] :: AG) ({ frames := 7, cells := 1, slots := 6, locals := 102 } : Room) (va_Pc [.ref (ad (0)), .int p0] (PWz dC dI cA ad M)) (va_Ql (fun r u => (r, u) = wL (f_X5_pass M p0)) (PC dC dI cA ad) (adS 69 ad)) 1 6 (adS 69 ad) := by
  refine zMet (by decide) (Nat.le_of_ble_eq_true rfl) ?_
  intro p e s m below meth c ls hx hb hr hml hlocks hown hts hK hP hS hl hKX hNC htab
  have hl : lv_has ls 3 [(0, .ref (ad (0))), (1, .int p0)] := hl
  refine lv_aload_n hx hb dL_passed_0 rfl (lv_at hl 0 rfl) ?_
  refine lv_iload_n hx hb dL_passed_1 rfl (lv_at hl 1 rfl) ?_
  refine kXl hx hb hml hown hts hK hP hS hKX (As := [.int p0]) (rest := []) (c_X5_pass l hfl dC dI cA ad hI M p0) (mkV hts q_334 q_25 q_331 q_332 q_333 hyX5_pass rfl rfl ⟨(Nat.le_of_ble_eq_true rfl), (Nat.le_of_ble_eq_true rfl)⟩) (w_recv hK hP (k := 0) (by decide) lyC0 (q := (RX5, TX5, 10)) rfl) rfl hl.1 rfl (Nat.le_of_ble_eq_true rfl) dL_passed_2 ⟨(Nat.le_of_ble_eq_true rfl), (Nat.le_of_ble_eq_true rfl)⟩ (fun n u H locs ce q9 hn hw hP hS _ hk hce hcv hcl => ?_) (fun r u H locs hw hP hS _ hk => ?_)
  · have hc9 := f_X5_pass_c M p0
    rw [← hw] at hc9
    have hc9 : n = 1 ∨ n = 2 := by simpa [inC, hn] using hc9
    rcases hc9 with rfl | rfl
    · refine vx_catch (own := RL) (name := "java/lang/IllegalArgumentException") (E := "java/lang/IllegalArgumentException") hown [] ⟨0, 5, 6, 13⟩ [⟨0, 5, 11, 22⟩] htab (fun z hz => nomatch hz) rfl (by decide) (hts _ q_240) (va_Nw.use rfl (hKX.2.2 (.castable "java/lang/IllegalArgumentException" "java/lang/IllegalArgumentException") (List.mem_filter.mpr ⟨by decide +kernel, rfl⟩))) hce hcv hcl ?_
      refine lv_astore_n (lv' := [(2, .ref q9), (0, .ref (ad (0))), (1, .int p0)]) hx hb dL_passed_6 rfl hl (by decide) rfl (fun ls hl => ?_)
      refine lv_ldc2 (v := (-9999002)) hx hb hown (hts _ q_370) dL_passed_7 ?_
      exact W.lret (v := (-9999002)) hx hb hr (fun t ht hW => ⟨⟨(-9999002), u, rfl, wL_thr hw (by decide) (by decide), by rw [ht]; exact hP, va_K.moved hW.alike hK⟩, hS.F ht⟩) hS.2.2 dL_passed_10
    · refine vx_catch (own := RL) (name := "java/lang/IllegalStateException") (E := "java/lang/IllegalStateException") hown [⟨0, 5, 6, 13⟩] ⟨0, 5, 11, 22⟩ [] htab (fun z hz => by rw [List.mem_singleton.mp hz]; exact Or.inr ⟨by decide, "java/lang/IllegalArgumentException", hts _ q_240, hNC ("java/lang/IllegalStateException", "java/lang/IllegalArgumentException") (by decide +kernel)⟩) rfl (by decide) (hts _ q_330) (va_Nw.use rfl (hKX.2.2 (.castable "java/lang/IllegalStateException" "java/lang/IllegalStateException") (List.mem_filter.mpr ⟨by decide +kernel, rfl⟩))) hce hcv hcl ?_
      refine lv_astore_n (lv' := [(2, .ref q9), (0, .ref (ad (0))), (1, .int p0)]) hx hb dL_passed_11 rfl hl (by decide) rfl (fun ls hl => ?_)
      refine lv_ldc2 (v := (-9999003)) hx hb hown (hts _ q_371) dL_passed_12 ?_
      exact W.lret (v := (-9999003)) hx hb hr (fun t ht hW => ⟨⟨(-9999003), u, rfl, wL_thr hw (by decide) (by decide), by rw [ht]; exact hP, va_K.moved hW.alike hK⟩, hS.F ht⟩) hS.2.2 dL_passed_15
  · exact W.lret (v := r) hx hb hr (fun t ht hW => ⟨⟨r, u, rfl, wL_ret hw, by rw [ht]; exact hP, va_K.moved hW.alike hK⟩, hS.F ht⟩) hS.2.2 dL_passed_5
theorem hyL_drifts : yL_drifts.cls ≠ "java/lang/invoke/MethodHandle" ∧ yL_drifts.cls ≠ "java/lang/invoke/VarHandle" ∧ (parseMethodDescriptor yL_drifts.desc).map (fun d => d.parameters.length) = some 2 := by decide +kernel
set_option maxHeartbeats 4000000 in
set_option maxRecDepth 100000 in
theorem c_L_drifts (l : Launch) (hfl : l.stackTraces = false) (dC : Nat → ClassId) (dI : Nat → Nat → Nat) (cA : Nat → ClassId) (ad : Nat → Nat) (hI : Inj 69 ad) (M : Mem) (p0 : Int32) : Met l yL_drifts (.codeWith yL_drifts cL_drifts 3 (some .int) [(0, 5, 6, 13)] :: AG) ({ frames := 7, cells := 1, slots := 6, locals := 102 } : Room) (va_Pc [.ref (ad (0)), .int p0] (PWz dC dI cA ad M)) (va_Qi (fun r u => (r, u) = wI (f_X5_setDrift M p0)) (PC dC dI cA ad) (adS 69 ad)) 1 6 (adS 69 ad) := by
  refine zMet (by decide) (Nat.le_of_ble_eq_true rfl) ?_
  intro p e s m below meth c ls hx hb hr hml hlocks hown hts hK hP hS hl hKX hNC htab
  have hl : lv_has ls 3 [(0, .ref (ad (0))), (1, .int p0)] := hl
  refine lv_aload_n hx hb dL_drifts_0 rfl (lv_at hl 0 rfl) ?_
  refine lv_iload_n hx hb dL_drifts_1 rfl (lv_at hl 1 rfl) ?_
  refine kXi hx hb hml hown hts hK hP hS hKX (As := [.int p0]) (rest := []) (c_X5_setDrift l hfl dC dI cA ad hI M p0) (mkV hts q_378 q_25 q_375 q_376 q_377 hyX5_setDrift rfl rfl ⟨(Nat.le_of_ble_eq_true rfl), (Nat.le_of_ble_eq_true rfl)⟩) (w_recv hK hP (k := 0) (by decide) lyC0 (q := (RX5, TX5, 10)) rfl) rfl hl.1 rfl (Nat.le_of_ble_eq_true rfl) dL_drifts_2 ⟨(Nat.le_of_ble_eq_true rfl), (Nat.le_of_ble_eq_true rfl)⟩ (fun n u H locs ce q9 hn hw hP hS _ hk hce hcv hcl => ?_) (fun r u H locs hw hP hS _ hk => ?_)
  · have hc9 := f_X5_setDrift_c M p0
    rw [← hw] at hc9
    have hc9 : n = 1 := by simpa [inC, hn] using hc9
    subst hc9
    refine vx_catch (own := RL) (name := "java/lang/IllegalArgumentException") (E := "java/lang/IllegalArgumentException") hown [] ⟨0, 5, 6, 13⟩ [] htab (fun z hz => nomatch hz) rfl (by decide) (hts _ q_240) (va_Nw.use rfl (hKX.2.2 (.castable "java/lang/IllegalArgumentException" "java/lang/IllegalArgumentException") (List.mem_filter.mpr ⟨by decide +kernel, rfl⟩))) hce hcv hcl ?_
    refine lv_astore_n (lv' := [(2, .ref q9), (0, .ref (ad (0))), (1, .int p0)]) hx hb dL_drifts_6 rfl hl (by decide) rfl (fun ls hl => ?_)
    refine lv_ldc (v := (-9999002)) hx hb hown (hts _ q_313) dL_drifts_7 ?_
    exact W.iret (v := (-9999002)) hx hb hr (fun t ht hW => ⟨⟨(-9999002), u, rfl, wI_thr hw (by decide) (by decide), by rw [ht]; exact hP, va_K.moved hW.alike hK⟩, hS.F ht⟩) hS.2.2 dL_drifts_9
  · exact W.iret (v := r) hx hb hr (fun t ht hW => ⟨⟨r, u, rfl, wI_ret hw, by rw [ht]; exact hP, va_K.moved hW.alike hK⟩, hS.F ht⟩) hS.2.2 dL_drifts_5
theorem hyL_announced : yL_announced.cls ≠ "java/lang/invoke/MethodHandle" ∧ yL_announced.cls ≠ "java/lang/invoke/VarHandle" ∧ (parseMethodDescriptor yL_announced.desc).map (fun d => d.parameters.length) = some 3 := by decide +kernel
set_option maxHeartbeats 4000000 in
set_option maxRecDepth 100000 in
theorem c_L_announced (l : Launch) (hfl : l.stackTraces = false) (dC : Nat → ClassId) (dI : Nat → Nat → Nat) (cA : Nat → ClassId) (ad : Nat → Nat) (hI : Inj 69 ad) (M : Mem) (p0 : Int32) (p1 : Int32) : Met l yL_announced (.codeWith yL_announced cL_announced 4 (some .long) [(0, 6, 7, 13), (0, 6, 12, 22)] :: AG) ({ frames := 7, cells := 1, slots := 6, locals := 105 } : Room) (va_Pc [.ref (ad (0)), .int p0, .int p1] (PWz dC dI cA ad M)) (va_Ql (fun r u => (r, u) = wL (f_X5_announceLeap M p0 p1)) (PC dC dI cA ad) (adS 69 ad)) 1 6 (adS 69 ad) := by
  refine zMet (by decide) (Nat.le_of_ble_eq_true rfl) ?_
  intro p e s m below meth c ls hx hb hr hml hlocks hown hts hK hP hS hl hKX hNC htab
  have hl : lv_has ls 4 [(0, .ref (ad (0))), (1, .int p0), (2, .int p1)] := hl
  refine lv_aload_n hx hb dL_announced_0 rfl (lv_at hl 0 rfl) ?_
  refine lv_iload_n hx hb dL_announced_1 rfl (lv_at hl 1 rfl) ?_
  refine lv_iload_n hx hb dL_announced_2 rfl (lv_at hl 2 rfl) ?_
  refine kXl hx hb hml hown hts hK hP hS hKX (As := [.int p0, .int p1]) (rest := []) (c_X5_announceLeap l hfl dC dI cA ad hI M p0 p1) (mkV hts q_389 q_25 q_386 q_387 q_388 hyX5_announceLeap rfl rfl ⟨(Nat.le_of_ble_eq_true rfl), (Nat.le_of_ble_eq_true rfl)⟩) (w_recv hK hP (k := 0) (by decide) lyC0 (q := (RX5, TX5, 10)) rfl) rfl hl.1 rfl (Nat.le_of_ble_eq_true rfl) dL_announced_3 ⟨(Nat.le_of_ble_eq_true rfl), (Nat.le_of_ble_eq_true rfl)⟩ (fun n u H locs ce q9 hn hw hP hS _ hk hce hcv hcl => ?_) (fun r u H locs hw hP hS _ hk => ?_)
  · have hc9 := f_X5_announceLeap_c M p0 p1
    rw [← hw] at hc9
    have hc9 : n = 1 ∨ n = 2 := by simpa [inC, hn] using hc9
    rcases hc9 with rfl | rfl
    · refine vx_catch (own := RL) (name := "java/lang/IllegalArgumentException") (E := "java/lang/IllegalArgumentException") hown [] ⟨0, 6, 7, 13⟩ [⟨0, 6, 12, 22⟩] htab (fun z hz => nomatch hz) rfl (by decide) (hts _ q_240) (va_Nw.use rfl (hKX.2.2 (.castable "java/lang/IllegalArgumentException" "java/lang/IllegalArgumentException") (List.mem_filter.mpr ⟨by decide +kernel, rfl⟩))) hce hcv hcl ?_
      refine lv_astore_n (lv' := [(3, .ref q9), (0, .ref (ad (0))), (1, .int p0), (2, .int p1)]) hx hb dL_announced_7 rfl hl (by decide) rfl (fun ls hl => ?_)
      refine lv_ldc2 (v := (-9999002)) hx hb hown (hts _ q_370) dL_announced_8 ?_
      exact W.lret (v := (-9999002)) hx hb hr (fun t ht hW => ⟨⟨(-9999002), u, rfl, wL_thr hw (by decide) (by decide), by rw [ht]; exact hP, va_K.moved hW.alike hK⟩, hS.F ht⟩) hS.2.2 dL_announced_11
    · refine vx_catch (own := RL) (name := "java/lang/IllegalStateException") (E := "java/lang/IllegalStateException") hown [⟨0, 6, 7, 13⟩] ⟨0, 6, 12, 22⟩ [] htab (fun z hz => by rw [List.mem_singleton.mp hz]; exact Or.inr ⟨by decide, "java/lang/IllegalArgumentException", hts _ q_240, hNC ("java/lang/IllegalStateException", "java/lang/IllegalArgumentException") (by decide +kernel)⟩) rfl (by decide) (hts _ q_330) (va_Nw.use rfl (hKX.2.2 (.castable "java/lang/IllegalStateException" "java/lang/IllegalStateException") (List.mem_filter.mpr ⟨by decide +kernel, rfl⟩))) hce hcv hcl ?_
      refine lv_astore_n (lv' := [(3, .ref q9), (0, .ref (ad (0))), (1, .int p0), (2, .int p1)]) hx hb dL_announced_12 rfl hl (by decide) rfl (fun ls hl => ?_)
      refine lv_ldc2 (v := (-9999003)) hx hb hown (hts _ q_371) dL_announced_13 ?_
      exact W.lret (v := (-9999003)) hx hb hr (fun t ht hW => ⟨⟨(-9999003), u, rfl, wL_thr hw (by decide) (by decide), by rw [ht]; exact hP, va_K.moved hW.alike hK⟩, hS.F ht⟩) hS.2.2 dL_announced_16
  · exact W.lret (v := r) hx hb hr (fun t ht hW => ⟨⟨r, u, rfl, wL_ret hw, by rw [ht]; exact hP, va_K.moved hW.alike hK⟩, hS.F ht⟩) hS.2.2 dL_announced_6
theorem hyL_added : yL_added.cls ≠ "java/lang/invoke/MethodHandle" ∧ yL_added.cls ≠ "java/lang/invoke/VarHandle" ∧ (parseMethodDescriptor yL_added.desc).map (fun d => d.parameters.length) = some 5 := by decide +kernel
set_option maxHeartbeats 4000000 in
set_option maxRecDepth 100000 in
theorem c_L_added (l : Launch) (hfl : l.stackTraces = false) (dC : Nat → ClassId) (dI : Nat → Nat → Nat) (cA : Nat → ClassId) (ad : Nat → Nat) (hI : Inj 69 ad) (M : Mem) (p0 : Int32) (p1 : Int32) (p2 : Int32) (p3 : Int32) : Met l yL_added (.codeWith yL_added cL_added 6 (some .int) [(0, 9, 10, 13), (0, 9, 15, 22)] :: AG) ({ frames := 7, cells := 1, slots := 6, locals := 106 } : Room) (va_Pc [.ref (ad (0)), .int p0, .int p1, .int p2, .int p3] (PWz dC dI cA ad M)) (va_Qi (fun r u => (r, u) = wI (f_X5_addServer M p0 p1 p2 p3)) (PC dC dI cA ad) (adS 69 ad)) 1 6 (adS 69 ad) := by
  refine zMet (by decide) (Nat.le_of_ble_eq_true rfl) ?_
  intro p e s m below meth c ls hx hb hr hml hlocks hown hts hK hP hS hl hKX hNC htab
  have hl : lv_has ls 6 [(0, .ref (ad (0))), (1, .int p0), (2, .int p1), (3, .int p2), (4, .int p3)] := hl
  refine lv_aload_n hx hb dL_added_0 rfl (lv_at hl 0 rfl) ?_
  refine lv_iload_n hx hb dL_added_1 rfl (lv_at hl 1 rfl) ?_
  refine lv_iload_n hx hb dL_added_2 rfl (lv_at hl 2 rfl) ?_
  refine lv_iload_n hx hb dL_added_3 rfl (lv_at hl 3 rfl) ?_
  refine lv_iload hx hb dL_added_4 (lv_at hl 4 rfl) ?_
  refine kXi hx hb hml hown hts hK hP hS hKX (As := [.int p0, .int p1, .int p2, .int p3]) (rest := []) (c_X5_addServer l hfl dC dI cA ad hI M p0 p1 p2 p3) (mkV hts q_405 q_25 q_402 q_403 q_404 hyX5_addServer rfl rfl ⟨(Nat.le_of_ble_eq_true rfl), (Nat.le_of_ble_eq_true rfl)⟩) (w_recv hK hP (k := 0) (by decide) lyC0 (q := (RX5, TX5, 10)) rfl) rfl hl.1 rfl (Nat.le_of_ble_eq_true rfl) dL_added_6 ⟨(Nat.le_of_ble_eq_true rfl), (Nat.le_of_ble_eq_true rfl)⟩ (fun n u H locs ce q9 hn hw hP hS _ hk hce hcv hcl => ?_) (fun r u H locs hw hP hS _ hk => ?_)
  · have hc9 := f_X5_addServer_c M p0 p1 p2 p3
    rw [← hw] at hc9
    have hc9 : n = 1 ∨ n = 2 := by simpa [inC, hn] using hc9
    rcases hc9 with rfl | rfl
    · refine vx_catch (own := RL) (name := "java/lang/IllegalArgumentException") (E := "java/lang/IllegalArgumentException") hown [] ⟨0, 9, 10, 13⟩ [⟨0, 9, 15, 22⟩] htab (fun z hz => nomatch hz) rfl (by decide) (hts _ q_240) (va_Nw.use rfl (hKX.2.2 (.castable "java/lang/IllegalArgumentException" "java/lang/IllegalArgumentException") (List.mem_filter.mpr ⟨by decide +kernel, rfl⟩))) hce hcv hcl ?_
      refine lv_astore (lv' := [(5, .ref q9), (0, .ref (ad (0))), (1, .int p0), (2, .int p1), (3, .int p2), (4, .int p3)]) hx hb dL_added_10 hl (by decide) rfl (fun ls hl => ?_)
      refine lv_ldc (v := (-9999002)) hx hb hown (hts _ q_313) dL_added_12 ?_
      exact W.iret (v := (-9999002)) hx hb hr (fun t ht hW => ⟨⟨(-9999002), u, rfl, wI_thr hw (by decide) (by decide), by rw [ht]; exact hP, va_K.moved hW.alike hK⟩, hS.F ht⟩) hS.2.2 dL_added_14
    · refine vx_catch (own := RL) (name := "java/lang/IllegalStateException") (E := "java/lang/IllegalStateException") hown [⟨0, 9, 10, 13⟩] ⟨0, 9, 15, 22⟩ [] htab (fun z hz => by rw [List.mem_singleton.mp hz]; exact Or.inr ⟨by decide, "java/lang/IllegalArgumentException", hts _ q_240, hNC ("java/lang/IllegalStateException", "java/lang/IllegalArgumentException") (by decide +kernel)⟩) rfl (by decide) (hts _ q_330) (va_Nw.use rfl (hKX.2.2 (.castable "java/lang/IllegalStateException" "java/lang/IllegalStateException") (List.mem_filter.mpr ⟨by decide +kernel, rfl⟩))) hce hcv hcl ?_
      refine lv_astore (lv' := [(5, .ref q9), (0, .ref (ad (0))), (1, .int p0), (2, .int p1), (3, .int p2), (4, .int p3)]) hx hb dL_added_15 hl (by decide) rfl (fun ls hl => ?_)
      refine lv_ldc (v := (-9999003)) hx hb hown (hts _ q_423) dL_added_17 ?_
      exact W.iret (v := (-9999003)) hx hb hr (fun t ht hW => ⟨⟨(-9999003), u, rfl, wI_thr hw (by decide) (by decide), by rw [ht]; exact hP, va_K.moved hW.alike hK⟩, hS.F ht⟩) hS.2.2 dL_added_19
  · exact W.iret (v := r) hx hb hr (fun t ht hW => ⟨⟨r, u, rfl, wI_ret hw, by rw [ht]; exact hP, va_K.moved hW.alike hK⟩, hS.F ht⟩) hS.2.2 dL_added_9
theorem hyL_changed : yL_changed.cls ≠ "java/lang/invoke/MethodHandle" ∧ yL_changed.cls ≠ "java/lang/invoke/VarHandle" ∧ (parseMethodDescriptor yL_changed.desc).map (fun d => d.parameters.length) = some 3 := by decide +kernel
set_option maxHeartbeats 4000000 in
set_option maxRecDepth 100000 in
theorem c_L_changed (l : Launch) (hfl : l.stackTraces = false) (dC : Nat → ClassId) (dI : Nat → Nat → Nat) (cA : Nat → ClassId) (ad : Nat → Nat) (hI : Inj 69 ad) (M : Mem) (p0 : Int32) (p1 : Int32) : Met l yL_changed (.codeWith yL_changed cL_changed 4 (some .int) [(0, 6, 7, 43), (0, 6, 11, 13)] :: AG) ({ frames := 8, cells := 2, slots := 12, locals := 126 } : Room) (va_Pc [.ref (ad (0)), .int p0, .int p1] (PWz dC dI cA ad M)) (va_Qi (fun r u => (r, u) = wI (f_X5_setError M p0 p1)) (PC dC dI cA ad) (adS 69 ad)) 2 12 (adS 69 ad) := by
  refine zMet (by decide) (Nat.le_of_ble_eq_true rfl) ?_
  intro p e s m below meth c ls hx hb hr hml hlocks hown hts hK hP hS hl hKX hNC htab
  have hl : lv_has ls 4 [(0, .ref (ad (0))), (1, .int p0), (2, .int p1)] := hl
  refine lv_aload_n hx hb dL_changed_0 rfl (lv_at hl 0 rfl) ?_
  refine lv_iload_n hx hb dL_changed_1 rfl (lv_at hl 1 rfl) ?_
  refine lv_iload_n hx hb dL_changed_2 rfl (lv_at hl 2 rfl) ?_
  refine kXi hx hb hml hown hts hK hP hS hKX (As := [.int p0, .int p1]) (rest := []) (c_X5_setError l hfl dC dI cA ad hI M p0 p1) (mkV hts q_433 q_25 q_430 q_431 q_432 hyX5_setError rfl rfl ⟨(Nat.le_of_ble_eq_true rfl), (Nat.le_of_ble_eq_true rfl)⟩) (w_recv hK hP (k := 0) (by decide) lyC0 (q := (RX5, TX5, 10)) rfl) rfl hl.1 rfl (Nat.le_of_ble_eq_true rfl) dL_changed_3 ⟨(Nat.le_of_ble_eq_true rfl), (Nat.le_of_ble_eq_true rfl)⟩ (fun n u H locs ce q9 hn hw hP hS _ hk hce hcv hcl => ?_) (fun r u H locs hw hP hS _ hk => ?_)
  · have hc9 := f_X5_setError_c M p0 p1
    rw [← hw] at hc9
    have hc9 : n = 3 ∨ n = 1 := by simpa [inC, hn] using hc9
    rcases hc9 with rfl | rfl
    · refine vx_catch (own := RL) (name := "java/lang/IndexOutOfBoundsException") (E := "java/lang/IndexOutOfBoundsException") hown [] ⟨0, 6, 7, 43⟩ [⟨0, 6, 11, 13⟩] htab (fun z hz => nomatch hz) rfl (by decide) (hts _ q_429) (va_Nw.use rfl (hKX.2.2 (.castable "java/lang/IndexOutOfBoundsException" "java/lang/IndexOutOfBoundsException") (List.mem_filter.mpr ⟨by decide +kernel, rfl⟩))) hce hcv hcl ?_
      refine lv_astore_n (lv' := [(3, .ref q9), (0, .ref (ad (0))), (1, .int p0), (2, .int p1)]) hx hb dL_changed_7 rfl hl (by decide) rfl (fun ls hl => ?_)
      refine lv_ldc (v := (-9999001)) hx hb hown (hts _ q_461) dL_changed_8 ?_
      exact W.iret (v := (-9999001)) hx hb hr (fun t ht hW => ⟨⟨(-9999001), u, rfl, wI_thr hw (by decide) (by decide), by rw [ht]; exact hP, va_K.moved hW.alike hK⟩, hS.F ht⟩) hS.2.2 dL_changed_10
    · refine vx_catch (own := RL) (name := "java/lang/IllegalArgumentException") (E := "java/lang/IllegalArgumentException") hown [⟨0, 6, 7, 43⟩] ⟨0, 6, 11, 13⟩ [] htab (fun z hz => by rw [List.mem_singleton.mp hz]; exact Or.inr ⟨by decide, "java/lang/IndexOutOfBoundsException", hts _ q_429, hNC ("java/lang/IllegalArgumentException", "java/lang/IndexOutOfBoundsException") (by decide +kernel)⟩) rfl (by decide) (hts _ q_240) (va_Nw.use rfl (hKX.2.2 (.castable "java/lang/IllegalArgumentException" "java/lang/IllegalArgumentException") (List.mem_filter.mpr ⟨by decide +kernel, rfl⟩))) hce hcv hcl ?_
      refine lv_astore_n (lv' := [(3, .ref q9), (0, .ref (ad (0))), (1, .int p0), (2, .int p1)]) hx hb dL_changed_11 rfl hl (by decide) rfl (fun ls hl => ?_)
      refine lv_ldc (v := (-9999002)) hx hb hown (hts _ q_313) dL_changed_12 ?_
      exact W.iret (v := (-9999002)) hx hb hr (fun t ht hW => ⟨⟨(-9999002), u, rfl, wI_thr hw (by decide) (by decide), by rw [ht]; exact hP, va_K.moved hW.alike hK⟩, hS.F ht⟩) hS.2.2 dL_changed_14
  · exact W.iret (v := r) hx hb hr (fun t ht hW => ⟨⟨r, u, rfl, wI_ret hw, by rw [ht]; exact hP, va_K.moved hW.alike hK⟩, hS.F ht⟩) hS.2.2 dL_changed_6
theorem hyL_exchanged : yL_exchanged.cls ≠ "java/lang/invoke/MethodHandle" ∧ yL_exchanged.cls ≠ "java/lang/invoke/VarHandle" ∧ (parseMethodDescriptor yL_exchanged.desc).map (fun d => d.parameters.length) = some 5 := by decide +kernel
set_option maxHeartbeats 4000000 in
set_option maxRecDepth 100000 in
theorem c_L_exchanged (l : Launch) (hfl : l.stackTraces = false) (dC : Nat → ClassId) (dI : Nat → Nat → Nat) (cA : Nat → ClassId) (ad : Nat → Nat) (hI : Inj 69 ad) (M : Mem) (p0 : Int32) (p1 : Int32) (p2 : Int32) (p3 : Int32) : Met l yL_exchanged (.codeWith yL_exchanged cL_exchanged 6 (some .long) [(0, 9, 10, 43), (0, 9, 16, 13), (0, 9, 22, 22)] :: AG) ({ frames := 8, cells := 2, slots := 12, locals := 133 } : Room) (va_Pc [.ref (ad (0)), .int p0, .int p1, .int p2, .int p3] (PWz dC dI cA ad M)) (va_Ql (fun r u => (r, u) = wL (f_X5_exchange M p0 p1 p2 p3)) (PC dC dI cA ad) (adS 69 ad)) 2 12 (adS 69 ad) := by
  refine zMet (by decide) (Nat.le_of_ble_eq_true rfl) ?_
  intro p e s m below meth c ls hx hb hr hml hlocks hown hts hK hP hS hl hKX hNC htab
  have hl : lv_has ls 6 [(0, .ref (ad (0))), (1, .int p0), (2, .int p1), (3, .int p2), (4, .int p3)] := hl
  refine lv_aload_n hx hb dL_exchanged_0 rfl (lv_at hl 0 rfl) ?_
  refine lv_iload_n hx hb dL_exchanged_1 rfl (lv_at hl 1 rfl) ?_
  refine lv_iload_n hx hb dL_exchanged_2 rfl (lv_at hl 2 rfl) ?_
  refine lv_iload_n hx hb dL_exchanged_3 rfl (lv_at hl 3 rfl) ?_
  refine lv_iload hx hb dL_exchanged_4 (lv_at hl 4 rfl) ?_
  refine kXl hx hb hml hown hts hK hP hS hKX (As := [.int p0, .int p1, .int p2, .int p3]) (rest := []) (c_X5_exchange l hfl dC dI cA ad hI M p0 p1 p2 p3) (mkV hts q_468 q_25 q_465 q_466 q_467 hyX5_exchange rfl rfl ⟨(Nat.le_of_ble_eq_true rfl), (Nat.le_of_ble_eq_true rfl)⟩) (w_recv hK hP (k := 0) (by decide) lyC0 (q := (RX5, TX5, 10)) rfl) rfl hl.1 rfl (Nat.le_of_ble_eq_true rfl) dL_exchanged_6 ⟨(Nat.le_of_ble_eq_true rfl), (Nat.le_of_ble_eq_true rfl)⟩ (fun n u H locs ce q9 hn hw hP hS _ hk hce hcv hcl => ?_) (fun r u H locs hw hP hS _ hk => ?_)
  · have hc9 := f_X5_exchange_c M p0 p1 p2 p3
    rw [← hw] at hc9
    have hc9 : n = 3 ∨ n = 1 ∨ n = 2 := by simpa [inC, hn] using hc9
    rcases hc9 with rfl | rfl | rfl
    · refine vx_catch (own := RL) (name := "java/lang/IndexOutOfBoundsException") (E := "java/lang/IndexOutOfBoundsException") hown [] ⟨0, 9, 10, 43⟩ [⟨0, 9, 16, 13⟩, ⟨0, 9, 22, 22⟩] htab (fun z hz => nomatch hz) rfl (by decide) (hts _ q_429) (va_Nw.use rfl (hKX.2.2 (.castable "java/lang/IndexOutOfBoundsException" "java/lang/IndexOutOfBoundsException") (List.mem_filter.mpr ⟨by decide +kernel, rfl⟩))) hce hcv hcl ?_
      refine lv_astore (lv' := [(5, .ref q9), (0, .ref (ad (0))), (1, .int p0), (2, .int p1), (3, .int p2), (4, .int p3)]) hx hb dL_exchanged_10 hl (by decide) rfl (fun ls hl => ?_)
      refine lv_ldc2 (v := (-9999001)) hx hb hown (hts _ q_506) dL_exchanged_12 ?_
      exact W.lret (v := (-9999001)) hx hb hr (fun t ht hW => ⟨⟨(-9999001), u, rfl, wL_thr hw (by decide) (by decide), by rw [ht]; exact hP, va_K.moved hW.alike hK⟩, hS.F ht⟩) hS.2.2 dL_exchanged_15
    · refine vx_catch (own := RL) (name := "java/lang/IllegalArgumentException") (E := "java/lang/IllegalArgumentException") hown [⟨0, 9, 10, 43⟩] ⟨0, 9, 16, 13⟩ [⟨0, 9, 22, 22⟩] htab (fun z hz => by rw [List.mem_singleton.mp hz]; exact Or.inr ⟨by decide, "java/lang/IndexOutOfBoundsException", hts _ q_429, hNC ("java/lang/IllegalArgumentException", "java/lang/IndexOutOfBoundsException") (by decide +kernel)⟩) rfl (by decide) (hts _ q_240) (va_Nw.use rfl (hKX.2.2 (.castable "java/lang/IllegalArgumentException" "java/lang/IllegalArgumentException") (List.mem_filter.mpr ⟨by decide +kernel, rfl⟩))) hce hcv hcl ?_
      refine lv_astore (lv' := [(5, .ref q9), (0, .ref (ad (0))), (1, .int p0), (2, .int p1), (3, .int p2), (4, .int p3)]) hx hb dL_exchanged_16 hl (by decide) rfl (fun ls hl => ?_)
      refine lv_ldc2 (v := (-9999002)) hx hb hown (hts _ q_370) dL_exchanged_18 ?_
      exact W.lret (v := (-9999002)) hx hb hr (fun t ht hW => ⟨⟨(-9999002), u, rfl, wL_thr hw (by decide) (by decide), by rw [ht]; exact hP, va_K.moved hW.alike hK⟩, hS.F ht⟩) hS.2.2 dL_exchanged_21
    · refine vx_catch (own := RL) (name := "java/lang/IllegalStateException") (E := "java/lang/IllegalStateException") hown [⟨0, 9, 10, 43⟩, ⟨0, 9, 16, 13⟩] ⟨0, 9, 22, 22⟩ [] htab (fun z hz => (List.mem_cons.mp hz).elim (fun h => by rw [h]; exact Or.inr ⟨by decide, "java/lang/IndexOutOfBoundsException", hts _ q_429, hNC ("java/lang/IllegalStateException", "java/lang/IndexOutOfBoundsException") (by decide +kernel)⟩) (fun h => by rw [List.mem_singleton.mp h]; exact Or.inr ⟨by decide, "java/lang/IllegalArgumentException", hts _ q_240, hNC ("java/lang/IllegalStateException", "java/lang/IllegalArgumentException") (by decide +kernel)⟩)) rfl (by decide) (hts _ q_330) (va_Nw.use rfl (hKX.2.2 (.castable "java/lang/IllegalStateException" "java/lang/IllegalStateException") (List.mem_filter.mpr ⟨by decide +kernel, rfl⟩))) hce hcv hcl ?_
      refine lv_astore (lv' := [(5, .ref q9), (0, .ref (ad (0))), (1, .int p0), (2, .int p1), (3, .int p2), (4, .int p3)]) hx hb dL_exchanged_22 hl (by decide) rfl (fun ls hl => ?_)
      refine lv_ldc2 (v := (-9999003)) hx hb hown (hts _ q_371) dL_exchanged_24 ?_
      exact W.lret (v := (-9999003)) hx hb hr (fun t ht hW => ⟨⟨(-9999003), u, rfl, wL_thr hw (by decide) (by decide), by rw [ht]; exact hP, va_K.moved hW.alike hK⟩, hS.F ht⟩) hS.2.2 dL_exchanged_27
  · exact W.lret (v := r) hx hb hr (fun t ht hW => ⟨⟨r, u, rfl, wL_ret hw, by rw [ht]; exact hP, va_K.moved hW.alike hK⟩, hS.F ht⟩) hS.2.2 dL_exchanged_9
theorem hyL_samples : yL_samples.cls ≠ "java/lang/invoke/MethodHandle" ∧ yL_samples.cls ≠ "java/lang/invoke/VarHandle" ∧ (parseMethodDescriptor yL_samples.desc).map (fun d => d.parameters.length) = some 2 := by decide +kernel
set_option maxHeartbeats 4000000 in
set_option maxRecDepth 100000 in
theorem c_L_samples (l : Launch) (hfl : l.stackTraces = false) (dC : Nat → ClassId) (dI : Nat → Nat → Nat) (cA : Nat → ClassId) (ad : Nat → Nat) (hI : Inj 69 ad) (M : Mem) (p0 : Int32) : Met l yL_samples (.codeWith yL_samples cL_samples 3 (some .int) [(0, 5, 6, 43)] :: AG) ({ frames := 8, cells := 1, slots := 6, locals := 124 } : Room) (va_Pc [.ref (ad (0)), .int p0] (PWz dC dI cA ad M)) (va_Qi (fun r u => (r, u) = wI (f_X5_samples M p0)) (PC dC dI cA ad) (adS 69 ad)) 1 6 (adS 69 ad) := by
  refine zMet (by decide) (Nat.le_of_ble_eq_true rfl) ?_
  intro p e s m below meth c ls hx hb hr hml hlocks hown hts hK hP hS hl hKX hNC htab
  have hl : lv_has ls 3 [(0, .ref (ad (0))), (1, .int p0)] := hl
  refine lv_aload_n hx hb dL_samples_0 rfl (lv_at hl 0 rfl) ?_
  refine lv_iload_n hx hb dL_samples_1 rfl (lv_at hl 1 rfl) ?_
  refine kXi hx hb hml hown hts hK hP hS hKX (As := [.int p0]) (rest := []) (c_X5_samples l hfl dC dI cA ad hI M p0) (mkV hts q_513 q_25 q_510 q_511 q_512 hyX5_samples rfl rfl ⟨(Nat.le_of_ble_eq_true rfl), (Nat.le_of_ble_eq_true rfl)⟩) (w_recv hK hP (k := 0) (by decide) lyC0 (q := (RX5, TX5, 10)) rfl) rfl hl.1 rfl (Nat.le_of_ble_eq_true rfl) dL_samples_2 ⟨(Nat.le_of_ble_eq_true rfl), (Nat.le_of_ble_eq_true rfl)⟩ (fun n u H locs ce q9 hn hw hP hS _ hk hce hcv hcl => ?_) (fun r u H locs hw hP hS _ hk => ?_)
  · have hc9 := f_X5_samples_c M p0
    rw [← hw] at hc9
    have hc9 : n = 3 := by simpa [inC, hn] using hc9
    subst hc9
    refine vx_catch (own := RL) (name := "java/lang/IndexOutOfBoundsException") (E := "java/lang/IndexOutOfBoundsException") hown [] ⟨0, 5, 6, 43⟩ [] htab (fun z hz => nomatch hz) rfl (by decide) (hts _ q_429) (va_Nw.use rfl (hKX.2.2 (.castable "java/lang/IndexOutOfBoundsException" "java/lang/IndexOutOfBoundsException") (List.mem_filter.mpr ⟨by decide +kernel, rfl⟩))) hce hcv hcl ?_
    refine lv_astore_n (lv' := [(2, .ref q9), (0, .ref (ad (0))), (1, .int p0)]) hx hb dL_samples_6 rfl hl (by decide) rfl (fun ls hl => ?_)
    refine lv_ldc (v := (-9999001)) hx hb hown (hts _ q_461) dL_samples_7 ?_
    exact W.iret (v := (-9999001)) hx hb hr (fun t ht hW => ⟨⟨(-9999001), u, rfl, wI_thr hw (by decide) (by decide), by rw [ht]; exact hP, va_K.moved hW.alike hK⟩, hS.F ht⟩) hS.2.2 dL_samples_9
  · exact W.iret (v := r) hx hb hr (fun t ht hW => ⟨⟨r, u, rfl, wI_ret hw, by rw [ht]; exact hP, va_K.moved hW.alike hK⟩, hS.F ht⟩) hS.2.2 dL_samples_5
theorem hyL_offset : yL_offset.cls ≠ "java/lang/invoke/MethodHandle" ∧ yL_offset.cls ≠ "java/lang/invoke/VarHandle" ∧ (parseMethodDescriptor yL_offset.desc).map (fun d => d.parameters.length) = some 2 := by decide +kernel
set_option maxHeartbeats 4000000 in
set_option maxRecDepth 100000 in
theorem c_L_offset (l : Launch) (hfl : l.stackTraces = false) (dC : Nat → ClassId) (dI : Nat → Nat → Nat) (cA : Nat → ClassId) (ad : Nat → Nat) (hI : Inj 69 ad) (M : Mem) (p0 : Int32) : Met l yL_offset (.codeWith yL_offset cL_offset 3 (some .long) [(0, 5, 6, 43), (0, 5, 11, 22)] :: AG) ({ frames := 9, cells := 2, slots := 12, locals := 146 } : Room) (va_Pc [.ref (ad (0)), .int p0] (PWz dC dI cA ad M)) (va_Ql (fun r u => (r, u) = wL (f_X5_offset M p0)) (PC dC dI cA ad) (adS 69 ad)) 2 12 (adS 69 ad) := by
  refine zMet (by decide) (Nat.le_of_ble_eq_true rfl) ?_
  intro p e s m below meth c ls hx hb hr hml hlocks hown hts hK hP hS hl hKX hNC htab
  have hl : lv_has ls 3 [(0, .ref (ad (0))), (1, .int p0)] := hl
  refine lv_aload_n hx hb dL_offset_0 rfl (lv_at hl 0 rfl) ?_
  refine lv_iload_n hx hb dL_offset_1 rfl (lv_at hl 1 rfl) ?_
  refine kXl hx hb hml hown hts hK hP hS hKX (As := [.int p0]) (rest := []) (c_X5_offset l hfl dC dI cA ad hI M p0) (mkV hts q_524 q_25 q_521 q_522 q_523 hyX5_offset rfl rfl ⟨(Nat.le_of_ble_eq_true rfl), (Nat.le_of_ble_eq_true rfl)⟩) (w_recv hK hP (k := 0) (by decide) lyC0 (q := (RX5, TX5, 10)) rfl) rfl hl.1 rfl (Nat.le_of_ble_eq_true rfl) dL_offset_2 ⟨(Nat.le_of_ble_eq_true rfl), (Nat.le_of_ble_eq_true rfl)⟩ (fun n u H locs ce q9 hn hw hP hS _ hk hce hcv hcl => ?_) (fun r u H locs hw hP hS _ hk => ?_)
  · have hc9 := f_X5_offset_c M p0
    rw [← hw] at hc9
    have hc9 : n = 3 ∨ n = 2 := by simpa [inC, hn] using hc9
    rcases hc9 with rfl | rfl
    · refine vx_catch (own := RL) (name := "java/lang/IndexOutOfBoundsException") (E := "java/lang/IndexOutOfBoundsException") hown [] ⟨0, 5, 6, 43⟩ [⟨0, 5, 11, 22⟩] htab (fun z hz => nomatch hz) rfl (by decide) (hts _ q_429) (va_Nw.use rfl (hKX.2.2 (.castable "java/lang/IndexOutOfBoundsException" "java/lang/IndexOutOfBoundsException") (List.mem_filter.mpr ⟨by decide +kernel, rfl⟩))) hce hcv hcl ?_
      refine lv_astore_n (lv' := [(2, .ref q9), (0, .ref (ad (0))), (1, .int p0)]) hx hb dL_offset_6 rfl hl (by decide) rfl (fun ls hl => ?_)
      refine lv_ldc2 (v := (-9999001)) hx hb hown (hts _ q_506) dL_offset_7 ?_
      exact W.lret (v := (-9999001)) hx hb hr (fun t ht hW => ⟨⟨(-9999001), u, rfl, wL_thr hw (by decide) (by decide), by rw [ht]; exact hP, va_K.moved hW.alike hK⟩, hS.F ht⟩) hS.2.2 dL_offset_10
    · refine vx_catch (own := RL) (name := "java/lang/IllegalStateException") (E := "java/lang/IllegalStateException") hown [⟨0, 5, 6, 43⟩] ⟨0, 5, 11, 22⟩ [] htab (fun z hz => by rw [List.mem_singleton.mp hz]; exact Or.inr ⟨by decide, "java/lang/IndexOutOfBoundsException", hts _ q_429, hNC ("java/lang/IllegalStateException", "java/lang/IndexOutOfBoundsException") (by decide +kernel)⟩) rfl (by decide) (hts _ q_330) (va_Nw.use rfl (hKX.2.2 (.castable "java/lang/IllegalStateException" "java/lang/IllegalStateException") (List.mem_filter.mpr ⟨by decide +kernel, rfl⟩))) hce hcv hcl ?_
      refine lv_astore_n (lv' := [(2, .ref q9), (0, .ref (ad (0))), (1, .int p0)]) hx hb dL_offset_11 rfl hl (by decide) rfl (fun ls hl => ?_)
      refine lv_ldc2 (v := (-9999003)) hx hb hown (hts _ q_371) dL_offset_12 ?_
      exact W.lret (v := (-9999003)) hx hb hr (fun t ht hW => ⟨⟨(-9999003), u, rfl, wL_thr hw (by decide) (by decide), by rw [ht]; exact hP, va_K.moved hW.alike hK⟩, hS.F ht⟩) hS.2.2 dL_offset_15
  · exact W.lret (v := r) hx hb hr (fun t ht hW => ⟨⟨r, u, rfl, wL_ret hw, by rw [ht]; exact hP, va_K.moved hW.alike hK⟩, hS.F ht⟩) hS.2.2 dL_offset_5
theorem hyL_delay : yL_delay.cls ≠ "java/lang/invoke/MethodHandle" ∧ yL_delay.cls ≠ "java/lang/invoke/VarHandle" ∧ (parseMethodDescriptor yL_delay.desc).map (fun d => d.parameters.length) = some 2 := by decide +kernel
set_option maxHeartbeats 4000000 in
set_option maxRecDepth 100000 in
theorem c_L_delay (l : Launch) (hfl : l.stackTraces = false) (dC : Nat → ClassId) (dI : Nat → Nat → Nat) (cA : Nat → ClassId) (ad : Nat → Nat) (hI : Inj 69 ad) (M : Mem) (p0 : Int32) : Met l yL_delay (.codeWith yL_delay cL_delay 3 (some .long) [(0, 5, 6, 43), (0, 5, 11, 22)] :: AG) ({ frames := 9, cells := 2, slots := 12, locals := 146 } : Room) (va_Pc [.ref (ad (0)), .int p0] (PWz dC dI cA ad M)) (va_Ql (fun r u => (r, u) = wL (f_X5_delay M p0)) (PC dC dI cA ad) (adS 69 ad)) 2 12 (adS 69 ad) := by
  refine zMet (by decide) (Nat.le_of_ble_eq_true rfl) ?_
  intro p e s m below meth c ls hx hb hr hml hlocks hown hts hK hP hS hl hKX hNC htab
  have hl : lv_has ls 3 [(0, .ref (ad (0))), (1, .int p0)] := hl
  refine lv_aload_n hx hb dL_delay_0 rfl (lv_at hl 0 rfl) ?_
  refine lv_iload_n hx hb dL_delay_1 rfl (lv_at hl 1 rfl) ?_
  refine kXl hx hb hml hown hts hK hP hS hKX (As := [.int p0]) (rest := []) (c_X5_delay l hfl dC dI cA ad hI M p0) (mkV hts q_539 q_25 q_536 q_537 q_538 hyX5_delay rfl rfl ⟨(Nat.le_of_ble_eq_true rfl), (Nat.le_of_ble_eq_true rfl)⟩) (w_recv hK hP (k := 0) (by decide) lyC0 (q := (RX5, TX5, 10)) rfl) rfl hl.1 rfl (Nat.le_of_ble_eq_true rfl) dL_delay_2 ⟨(Nat.le_of_ble_eq_true rfl), (Nat.le_of_ble_eq_true rfl)⟩ (fun n u H locs ce q9 hn hw hP hS _ hk hce hcv hcl => ?_) (fun r u H locs hw hP hS _ hk => ?_)
  · have hc9 := f_X5_delay_c M p0
    rw [← hw] at hc9
    have hc9 : n = 3 ∨ n = 2 := by simpa [inC, hn] using hc9
    rcases hc9 with rfl | rfl
    · refine vx_catch (own := RL) (name := "java/lang/IndexOutOfBoundsException") (E := "java/lang/IndexOutOfBoundsException") hown [] ⟨0, 5, 6, 43⟩ [⟨0, 5, 11, 22⟩] htab (fun z hz => nomatch hz) rfl (by decide) (hts _ q_429) (va_Nw.use rfl (hKX.2.2 (.castable "java/lang/IndexOutOfBoundsException" "java/lang/IndexOutOfBoundsException") (List.mem_filter.mpr ⟨by decide +kernel, rfl⟩))) hce hcv hcl ?_
      refine lv_astore_n (lv' := [(2, .ref q9), (0, .ref (ad (0))), (1, .int p0)]) hx hb dL_delay_6 rfl hl (by decide) rfl (fun ls hl => ?_)
      refine lv_ldc2 (v := (-9999001)) hx hb hown (hts _ q_506) dL_delay_7 ?_
      exact W.lret (v := (-9999001)) hx hb hr (fun t ht hW => ⟨⟨(-9999001), u, rfl, wL_thr hw (by decide) (by decide), by rw [ht]; exact hP, va_K.moved hW.alike hK⟩, hS.F ht⟩) hS.2.2 dL_delay_10
    · refine vx_catch (own := RL) (name := "java/lang/IllegalStateException") (E := "java/lang/IllegalStateException") hown [⟨0, 5, 6, 43⟩] ⟨0, 5, 11, 22⟩ [] htab (fun z hz => by rw [List.mem_singleton.mp hz]; exact Or.inr ⟨by decide, "java/lang/IndexOutOfBoundsException", hts _ q_429, hNC ("java/lang/IllegalStateException", "java/lang/IndexOutOfBoundsException") (by decide +kernel)⟩) rfl (by decide) (hts _ q_330) (va_Nw.use rfl (hKX.2.2 (.castable "java/lang/IllegalStateException" "java/lang/IllegalStateException") (List.mem_filter.mpr ⟨by decide +kernel, rfl⟩))) hce hcv hcl ?_
      refine lv_astore_n (lv' := [(2, .ref q9), (0, .ref (ad (0))), (1, .int p0)]) hx hb dL_delay_11 rfl hl (by decide) rfl (fun ls hl => ?_)
      refine lv_ldc2 (v := (-9999003)) hx hb hown (hts _ q_371) dL_delay_12 ?_
      exact W.lret (v := (-9999003)) hx hb hr (fun t ht hW => ⟨⟨(-9999003), u, rfl, wL_thr hw (by decide) (by decide), by rw [ht]; exact hP, va_K.moved hW.alike hK⟩, hS.F ht⟩) hS.2.2 dL_delay_15
  · exact W.lret (v := r) hx hb hr (fun t ht hW => ⟨⟨r, u, rfl, wL_ret hw, by rw [ht]; exact hP, va_K.moved hW.alike hK⟩, hS.F ht⟩) hS.2.2 dL_delay_5
theorem hyL_jitter : yL_jitter.cls ≠ "java/lang/invoke/MethodHandle" ∧ yL_jitter.cls ≠ "java/lang/invoke/VarHandle" ∧ (parseMethodDescriptor yL_jitter.desc).map (fun d => d.parameters.length) = some 2 := by decide +kernel
set_option maxHeartbeats 4000000 in
set_option maxRecDepth 100000 in
theorem c_L_jitter (l : Launch) (hfl : l.stackTraces = false) (dC : Nat → ClassId) (dI : Nat → Nat → Nat) (cA : Nat → ClassId) (ad : Nat → Nat) (hI : Inj 69 ad) (M : Mem) (p0 : Int32) : Met l yL_jitter (.codeWith yL_jitter cL_jitter 3 (some .long) [(0, 5, 6, 43), (0, 5, 11, 22)] :: AG) ({ frames := 9, cells := 2, slots := 12, locals := 146 } : Room) (va_Pc [.ref (ad (0)), .int p0] (PWz dC dI cA ad M)) (va_Ql (fun r u => (r, u) = wL (f_X5_jitter M p0)) (PC dC dI cA ad) (adS 69 ad)) 2 12 (adS 69 ad) := by
  refine zMet (by decide) (Nat.le_of_ble_eq_true rfl) ?_
  intro p e s m below meth c ls hx hb hr hml hlocks hown hts hK hP hS hl hKX hNC htab
  have hl : lv_has ls 3 [(0, .ref (ad (0))), (1, .int p0)] := hl
  refine lv_aload_n hx hb dL_jitter_0 rfl (lv_at hl 0 rfl) ?_
  refine lv_iload_n hx hb dL_jitter_1 rfl (lv_at hl 1 rfl) ?_
  refine kXl hx hb hml hown hts hK hP hS hKX (As := [.int p0]) (rest := []) (c_X5_jitter l hfl dC dI cA ad hI M p0) (mkV hts q_550 q_25 q_547 q_548 q_549 hyX5_jitter rfl rfl ⟨(Nat.le_of_ble_eq_true rfl), (Nat.le_of_ble_eq_true rfl)⟩) (w_recv hK hP (k := 0) (by decide) lyC0 (q := (RX5, TX5, 10)) rfl) rfl hl.1 rfl (Nat.le_of_ble_eq_true rfl) dL_jitter_2 ⟨(Nat.le_of_ble_eq_true rfl), (Nat.le_of_ble_eq_true rfl)⟩ (fun n u H locs ce q9 hn hw hP hS _ hk hce hcv hcl => ?_) (fun r u H locs hw hP hS _ hk => ?_)
  · have hc9 := f_X5_jitter_c M p0
    rw [← hw] at hc9
    have hc9 : n = 3 ∨ n = 2 := by simpa [inC, hn] using hc9
    rcases hc9 with rfl | rfl
    · refine vx_catch (own := RL) (name := "java/lang/IndexOutOfBoundsException") (E := "java/lang/IndexOutOfBoundsException") hown [] ⟨0, 5, 6, 43⟩ [⟨0, 5, 11, 22⟩] htab (fun z hz => nomatch hz) rfl (by decide) (hts _ q_429) (va_Nw.use rfl (hKX.2.2 (.castable "java/lang/IndexOutOfBoundsException" "java/lang/IndexOutOfBoundsException") (List.mem_filter.mpr ⟨by decide +kernel, rfl⟩))) hce hcv hcl ?_
      refine lv_astore_n (lv' := [(2, .ref q9), (0, .ref (ad (0))), (1, .int p0)]) hx hb dL_jitter_6 rfl hl (by decide) rfl (fun ls hl => ?_)
      refine lv_ldc2 (v := (-9999001)) hx hb hown (hts _ q_506) dL_jitter_7 ?_
      exact W.lret (v := (-9999001)) hx hb hr (fun t ht hW => ⟨⟨(-9999001), u, rfl, wL_thr hw (by decide) (by decide), by rw [ht]; exact hP, va_K.moved hW.alike hK⟩, hS.F ht⟩) hS.2.2 dL_jitter_10
    · refine vx_catch (own := RL) (name := "java/lang/IllegalStateException") (E := "java/lang/IllegalStateException") hown [⟨0, 5, 6, 43⟩] ⟨0, 5, 11, 22⟩ [] htab (fun z hz => by rw [List.mem_singleton.mp hz]; exact Or.inr ⟨by decide, "java/lang/IndexOutOfBoundsException", hts _ q_429, hNC ("java/lang/IllegalStateException", "java/lang/IndexOutOfBoundsException") (by decide +kernel)⟩) rfl (by decide) (hts _ q_330) (va_Nw.use rfl (hKX.2.2 (.castable "java/lang/IllegalStateException" "java/lang/IllegalStateException") (List.mem_filter.mpr ⟨by decide +kernel, rfl⟩))) hce hcv hcl ?_
      refine lv_astore_n (lv' := [(2, .ref q9), (0, .ref (ad (0))), (1, .int p0)]) hx hb dL_jitter_11 rfl hl (by decide) rfl (fun ls hl => ?_)
      refine lv_ldc2 (v := (-9999003)) hx hb hown (hts _ q_371) dL_jitter_12 ?_
      exact W.lret (v := (-9999003)) hx hb hr (fun t ht hW => ⟨⟨(-9999003), u, rfl, wL_thr hw (by decide) (by decide), by rw [ht]; exact hP, va_K.moved hW.alike hK⟩, hS.F ht⟩) hS.2.2 dL_jitter_15
  · exact W.lret (v := r) hx hb hr (fun t ht hW => ⟨⟨r, u, rfl, wL_ret hw, by rw [ht]; exact hP, va_K.moved hW.alike hK⟩, hS.F ht⟩) hS.2.2 dL_jitter_5
theorem hyL_distance : yL_distance.cls ≠ "java/lang/invoke/MethodHandle" ∧ yL_distance.cls ≠ "java/lang/invoke/VarHandle" ∧ (parseMethodDescriptor yL_distance.desc).map (fun d => d.parameters.length) = some 2 := by decide +kernel
set_option maxHeartbeats 4000000 in
set_option maxRecDepth 100000 in
theorem c_L_distance (l : Launch) (hfl : l.stackTraces = false) (dC : Nat → ClassId) (dI : Nat → Nat → Nat) (cA : Nat → ClassId) (ad : Nat → Nat) (hI : Inj 69 ad) (M : Mem) (p0 : Int32) : Met l yL_distance (.codeWith yL_distance cL_distance 3 (some .long) [(0, 5, 6, 43), (0, 5, 11, 22)] :: AG) ({ frames := 9, cells := 2, slots := 12, locals := 146 } : Room) (va_Pc [.ref (ad (0)), .int p0] (PWz dC dI cA ad M)) (va_Ql (fun r u => (r, u) = wL (f_X5_distance M p0)) (PC dC dI cA ad) (adS 69 ad)) 2 12 (adS 69 ad) := by
  refine zMet (by decide) (Nat.le_of_ble_eq_true rfl) ?_
  intro p e s m below meth c ls hx hb hr hml hlocks hown hts hK hP hS hl hKX hNC htab
  have hl : lv_has ls 3 [(0, .ref (ad (0))), (1, .int p0)] := hl
  refine lv_aload_n hx hb dL_distance_0 rfl (lv_at hl 0 rfl) ?_
  refine lv_iload_n hx hb dL_distance_1 rfl (lv_at hl 1 rfl) ?_
  refine kXl hx hb hml hown hts hK hP hS hKX (As := [.int p0]) (rest := []) (c_X5_distance l hfl dC dI cA ad hI M p0) (mkV hts q_564 q_25 q_561 q_562 q_563 hyX5_distance rfl rfl ⟨(Nat.le_of_ble_eq_true rfl), (Nat.le_of_ble_eq_true rfl)⟩) (w_recv hK hP (k := 0) (by decide) lyC0 (q := (RX5, TX5, 10)) rfl) rfl hl.1 rfl (Nat.le_of_ble_eq_true rfl) dL_distance_2 ⟨(Nat.le_of_ble_eq_true rfl), (Nat.le_of_ble_eq_true rfl)⟩ (fun n u H locs ce q9 hn hw hP hS _ hk hce hcv hcl => ?_) (fun r u H locs hw hP hS _ hk => ?_)
  · have hc9 := f_X5_distance_c M p0
    rw [← hw] at hc9
    have hc9 : n = 3 ∨ n = 2 := by simpa [inC, hn] using hc9
    rcases hc9 with rfl | rfl
    · refine vx_catch (own := RL) (name := "java/lang/IndexOutOfBoundsException") (E := "java/lang/IndexOutOfBoundsException") hown [] ⟨0, 5, 6, 43⟩ [⟨0, 5, 11, 22⟩] htab (fun z hz => nomatch hz) rfl (by decide) (hts _ q_429) (va_Nw.use rfl (hKX.2.2 (.castable "java/lang/IndexOutOfBoundsException" "java/lang/IndexOutOfBoundsException") (List.mem_filter.mpr ⟨by decide +kernel, rfl⟩))) hce hcv hcl ?_
      refine lv_astore_n (lv' := [(2, .ref q9), (0, .ref (ad (0))), (1, .int p0)]) hx hb dL_distance_6 rfl hl (by decide) rfl (fun ls hl => ?_)
      refine lv_ldc2 (v := (-9999001)) hx hb hown (hts _ q_506) dL_distance_7 ?_
      exact W.lret (v := (-9999001)) hx hb hr (fun t ht hW => ⟨⟨(-9999001), u, rfl, wL_thr hw (by decide) (by decide), by rw [ht]; exact hP, va_K.moved hW.alike hK⟩, hS.F ht⟩) hS.2.2 dL_distance_10
    · refine vx_catch (own := RL) (name := "java/lang/IllegalStateException") (E := "java/lang/IllegalStateException") hown [⟨0, 5, 6, 43⟩] ⟨0, 5, 11, 22⟩ [] htab (fun z hz => by rw [List.mem_singleton.mp hz]; exact Or.inr ⟨by decide, "java/lang/IndexOutOfBoundsException", hts _ q_429, hNC ("java/lang/IllegalStateException", "java/lang/IndexOutOfBoundsException") (by decide +kernel)⟩) rfl (by decide) (hts _ q_330) (va_Nw.use rfl (hKX.2.2 (.castable "java/lang/IllegalStateException" "java/lang/IllegalStateException") (List.mem_filter.mpr ⟨by decide +kernel, rfl⟩))) hce hcv hcl ?_
      refine lv_astore_n (lv' := [(2, .ref q9), (0, .ref (ad (0))), (1, .int p0)]) hx hb dL_distance_11 rfl hl (by decide) rfl (fun ls hl => ?_)
      refine lv_ldc2 (v := (-9999003)) hx hb hown (hts _ q_371) dL_distance_12 ?_
      exact W.lret (v := (-9999003)) hx hb hr (fun t ht hW => ⟨⟨(-9999003), u, rfl, wL_thr hw (by decide) (by decide), by rw [ht]; exact hP, va_K.moved hW.alike hK⟩, hS.F ht⟩) hS.2.2 dL_distance_15
  · exact W.lret (v := r) hx hb hr (fun t ht hW => ⟨⟨r, u, rfl, wL_ret hw, by rw [ht]; exact hP, va_K.moved hW.alike hK⟩, hS.F ht⟩) hS.2.2 dL_distance_5
theorem hyL_low : yL_low.cls ≠ "java/lang/invoke/MethodHandle" ∧ yL_low.cls ≠ "java/lang/invoke/VarHandle" ∧ (parseMethodDescriptor yL_low.desc).map (fun d => d.parameters.length) = some 1 := by decide +kernel
set_option maxHeartbeats 4000000 in
set_option maxRecDepth 100000 in
theorem c_L_low (l : Launch) (hfl : l.stackTraces = false) (dC : Nat → ClassId) (dI : Nat → Nat → Nat) (cA : Nat → ClassId) (ad : Nat → Nat) (hI : Inj 69 ad) (M : Mem)  : Met l yL_low (.codeWith yL_low cL_low 2 (some .long) [(0, 4, 5, 22)] :: AG) ({ frames := 8, cells := 1, slots := 6, locals := 160 } : Room) (va_Pc [.ref (ad (0))] (PWz dC dI cA ad M)) (va_Ql (fun r u => (r, u) = wL (f_X5_low M)) (PC dC dI cA ad) (adS 69 ad)) 1 6 (adS 69 ad) := by
  refine zMet (by decide) (Nat.le_of_ble_eq_true rfl) ?_
  intro p e s m below meth c ls hx hb hr hml hlocks hown hts hK hP hS hl hKX hNC htab
  have hl : lv_has ls 2 [(0, .ref (ad (0)))] := hl
  refine lv_aload_n hx hb dL_low_0 rfl (lv_at hl 0 rfl) ?_
  refine kXl hx hb hml hown hts hK hP hS hKX (As := []) (rest := []) (c_X5_low l hfl dC dI cA ad hI M ) (mkV hts q_721 q_25 q_718 q_719 q_720 hyX5_low rfl rfl ⟨(Nat.le_of_ble_eq_true rfl), (Nat.le_of_ble_eq_true rfl)⟩) (w_recv hK hP (k := 0) (by decide) lyC0 (q := (RX5, TX5, 10)) rfl) rfl hl.1 rfl (Nat.le_of_ble_eq_true rfl) dL_low_1 ⟨(Nat.le_of_ble_eq_true rfl), (Nat.le_of_ble_eq_true rfl)⟩ (fun n u H locs ce q9 hn hw hP hS _ hk hce hcv hcl => ?_) (fun r u H locs hw hP hS _ hk => ?_)
  · have hc9 := f_X5_low_c M 
    rw [← hw] at hc9
    have hc9 : n = 2 := by simpa [inC, hn] using hc9
    subst hc9
    refine vx_catch (own := RL) (name := "java/lang/IllegalStateException") (E := "java/lang/IllegalStateException") hown [] ⟨0, 4, 5, 22⟩ [] htab (fun z hz => nomatch hz) rfl (by decide) (hts _ q_330) (va_Nw.use rfl (hKX.2.2 (.castable "java/lang/IllegalStateException" "java/lang/IllegalStateException") (List.mem_filter.mpr ⟨by decide +kernel, rfl⟩))) hce hcv hcl ?_
    refine lv_astore_n (lv' := [(1, .ref q9), (0, .ref (ad (0)))]) hx hb dL_low_5 rfl hl (by decide) rfl (fun ls hl => ?_)
    refine lv_ldc2 (v := (-9999003)) hx hb hown (hts _ q_371) dL_low_6 ?_
    exact W.lret (v := (-9999003)) hx hb hr (fun t ht hW => ⟨⟨(-9999003), u, rfl, wL_thr hw (by decide) (by decide), by rw [ht]; exact hP, va_K.moved hW.alike hK⟩, hS.F ht⟩) hS.2.2 dL_low_9
  · exact W.lret (v := r) hx hb hr (fun t ht hW => ⟨⟨r, u, rfl, wL_ret hw, by rw [ht]; exact hP, va_K.moved hW.alike hK⟩, hS.F ht⟩) hS.2.2 dL_low_4
theorem hyL_high : yL_high.cls ≠ "java/lang/invoke/MethodHandle" ∧ yL_high.cls ≠ "java/lang/invoke/VarHandle" ∧ (parseMethodDescriptor yL_high.desc).map (fun d => d.parameters.length) = some 1 := by decide +kernel
set_option maxHeartbeats 4000000 in
set_option maxRecDepth 100000 in
theorem c_L_high (l : Launch) (hfl : l.stackTraces = false) (dC : Nat → ClassId) (dI : Nat → Nat → Nat) (cA : Nat → ClassId) (ad : Nat → Nat) (hI : Inj 69 ad) (M : Mem)  : Met l yL_high (.codeWith yL_high cL_high 2 (some .long) [(0, 4, 5, 22)] :: AG) ({ frames := 8, cells := 1, slots := 6, locals := 160 } : Room) (va_Pc [.ref (ad (0))] (PWz dC dI cA ad M)) (va_Ql (fun r u => (r, u) = wL (f_X5_high M)) (PC dC dI cA ad) (adS 69 ad)) 1 6 (adS 69 ad) := by
  refine zMet (by decide) (Nat.le_of_ble_eq_true rfl) ?_
  intro p e s m below meth c ls hx hb hr hml hlocks hown hts hK hP hS hl hKX hNC htab
  have hl : lv_has ls 2 [(0, .ref (ad (0)))] := hl
  refine lv_aload_n hx hb dL_high_0 rfl (lv_at hl 0 rfl) ?_
  refine kXl hx hb hml hown hts hK hP hS hKX (As := []) (rest := []) (c_X5_high l hfl dC dI cA ad hI M ) (mkV hts q_740 q_25 q_737 q_738 q_739 hyX5_high rfl rfl ⟨(Nat.le_of_ble_eq_true rfl), (Nat.le_of_ble_eq_true rfl)⟩) (w_recv hK hP (k := 0) (by decide) lyC0 (q := (RX5, TX5, 10)) rfl) rfl hl.1 rfl (Nat.le_of_ble_eq_true rfl) dL_high_1 ⟨(Nat.le_of_ble_eq_true rfl), (Nat.le_of_ble_eq_true rfl)⟩ (fun n u H locs ce q9 hn hw hP hS _ hk hce hcv hcl => ?_) (fun r u H locs hw hP hS _ hk => ?_)
  · have hc9 := f_X5_high_c M 
    rw [← hw] at hc9
    have hc9 : n = 2 := by simpa [inC, hn] using hc9
    subst hc9
    refine vx_catch (own := RL) (name := "java/lang/IllegalStateException") (E := "java/lang/IllegalStateException") hown [] ⟨0, 4, 5, 22⟩ [] htab (fun z hz => nomatch hz) rfl (by decide) (hts _ q_330) (va_Nw.use rfl (hKX.2.2 (.castable "java/lang/IllegalStateException" "java/lang/IllegalStateException") (List.mem_filter.mpr ⟨by decide +kernel, rfl⟩))) hce hcv hcl ?_
    refine lv_astore_n (lv' := [(1, .ref q9), (0, .ref (ad (0)))]) hx hb dL_high_5 rfl hl (by decide) rfl (fun ls hl => ?_)
    refine lv_ldc2 (v := (-9999003)) hx hb hown (hts _ q_371) dL_high_6 ?_
    exact W.lret (v := (-9999003)) hx hb hr (fun t ht hW => ⟨⟨(-9999003), u, rfl, wL_thr hw (by decide) (by decide), by rw [ht]; exact hP, va_K.moved hW.alike hK⟩, hS.F ht⟩) hS.2.2 dL_high_9
  · exact W.lret (v := r) hx hb hr (fun t ht hW => ⟨⟨r, u, rfl, wL_ret hw, by rw [ht]; exact hP, va_K.moved hW.alike hK⟩, hS.F ht⟩) hS.2.2 dL_high_4
theorem hyL_combined : yL_combined.cls ≠ "java/lang/invoke/MethodHandle" ∧ yL_combined.cls ≠ "java/lang/invoke/VarHandle" ∧ (parseMethodDescriptor yL_combined.desc).map (fun d => d.parameters.length) = some 1 := by decide +kernel
set_option maxHeartbeats 4000000 in
set_option maxRecDepth 100000 in
theorem c_L_combined (l : Launch) (hfl : l.stackTraces = false) (dC : Nat → ClassId) (dI : Nat → Nat → Nat) (cA : Nat → ClassId) (ad : Nat → Nat) (hI : Inj 69 ad) (M : Mem)  : Met l yL_combined (.codeWith yL_combined cL_combined 2 (some .long) [(0, 4, 5, 22)] :: AG) ({ frames := 8, cells := 1, slots := 6, locals := 160 } : Room) (va_Pc [.ref (ad (0))] (PWz dC dI cA ad M)) (va_Ql (fun r u => (r, u) = wL (f_X5_combinedOffset M)) (PC dC dI cA ad) (adS 69 ad)) 1 6 (adS 69 ad) := by
  refine zMet (by decide) (Nat.le_of_ble_eq_true rfl) ?_
  intro p e s m below meth c ls hx hb hr hml hlocks hown hts hK hP hS hl hKX hNC htab
  have hl : lv_has ls 2 [(0, .ref (ad (0)))] := hl
  refine lv_aload_n hx hb dL_combined_0 rfl (lv_at hl 0 rfl) ?_
  refine kXl hx hb hml hown hts hK hP hS hKX (As := []) (rest := []) (c_X5_combinedOffset l hfl dC dI cA ad hI M ) (mkV hts q_751 q_25 q_748 q_749 q_750 hyX5_combinedOffset rfl rfl ⟨(Nat.le_of_ble_eq_true rfl), (Nat.le_of_ble_eq_true rfl)⟩) (w_recv hK hP (k := 0) (by decide) lyC0 (q := (RX5, TX5, 10)) rfl) rfl hl.1 rfl (Nat.le_of_ble_eq_true rfl) dL_combined_1 ⟨(Nat.le_of_ble_eq_true rfl), (Nat.le_of_ble_eq_true rfl)⟩ (fun n u H locs ce q9 hn hw hP hS _ hk hce hcv hcl => ?_) (fun r u H locs hw hP hS _ hk => ?_)
  · have hc9 := f_X5_combinedOffset_c M 
    rw [← hw] at hc9
    have hc9 : n = 2 := by simpa [inC, hn] using hc9
    subst hc9
    refine vx_catch (own := RL) (name := "java/lang/IllegalStateException") (E := "java/lang/IllegalStateException") hown [] ⟨0, 4, 5, 22⟩ [] htab (fun z hz => nomatch hz) rfl (by decide) (hts _ q_330) (va_Nw.use rfl (hKX.2.2 (.castable "java/lang/IllegalStateException" "java/lang/IllegalStateException") (List.mem_filter.mpr ⟨by decide +kernel, rfl⟩))) hce hcv hcl ?_
    refine lv_astore_n (lv' := [(1, .ref q9), (0, .ref (ad (0)))]) hx hb dL_combined_5 rfl hl (by decide) rfl (fun ls hl => ?_)
    refine lv_ldc2 (v := (-9999003)) hx hb hown (hts _ q_371) dL_combined_6 ?_
    exact W.lret (v := (-9999003)) hx hb hr (fun t ht hW => ⟨⟨(-9999003), u, rfl, wL_thr hw (by decide) (by decide), by rw [ht]; exact hP, va_K.moved hW.alike hK⟩, hS.F ht⟩) hS.2.2 dL_combined_9
  · exact W.lret (v := r) hx hb hr (fun t ht hW => ⟨⟨r, u, rfl, wL_ret hw, by rw [ht]; exact hP, va_K.moved hW.alike hK⟩, hS.F ht⟩) hS.2.2 dL_combined_4
theorem hyL_synchronizes : yL_synchronizes.cls ≠ "java/lang/invoke/MethodHandle" ∧ yL_synchronizes.cls ≠ "java/lang/invoke/VarHandle" ∧ (parseMethodDescriptor yL_synchronizes.desc).map (fun d => d.parameters.length) = some 1 := by decide +kernel
set_option maxHeartbeats 4000000 in
set_option maxRecDepth 100000 in
theorem c_L_synchronizes (l : Launch) (hfl : l.stackTraces = false) (dC : Nat → ClassId) (dI : Nat → Nat → Nat) (cA : Nat → ClassId) (ad : Nat → Nat) (hI : Inj 69 ad) (M : Mem)  : Met l yL_synchronizes (.codeWith yL_synchronizes cL_synchronizes 2 (some .int) [(0, 4, 5, 22)] :: AG) ({ frames := 7, cells := 1, slots := 6, locals := 164 } : Room) (va_Pc [.ref (ad (0))] (PWz dC dI cA ad M)) (va_Qi (fun r u => (r, u) = wI (f_X5_synchronize M)) (PC dC dI cA ad) (adS 69 ad)) 1 6 (adS 69 ad) := by
  refine zMet (by decide) (Nat.le_of_ble_eq_true rfl) ?_
  intro p e s m below meth c ls hx hb hr hml hlocks hown hts hK hP hS hl hKX hNC htab
  have hl : lv_has ls 2 [(0, .ref (ad (0)))] := hl
  refine lv_aload_n hx hb dL_synchronizes_0 rfl (lv_at hl 0 rfl) ?_
  refine kXi hx hb hml hown hts hK hP hS hKX (As := []) (rest := []) (c_X5_synchronize l hfl dC dI cA ad hI M ) (mkV hts q_656 q_25 q_653 q_654 q_655 hyX5_synchronize rfl rfl ⟨(Nat.le_of_ble_eq_true rfl), (Nat.le_of_ble_eq_true rfl)⟩) (w_recv hK hP (k := 0) (by decide) lyC0 (q := (RX5, TX5, 10)) rfl) rfl hl.1 rfl (Nat.le_of_ble_eq_true rfl) dL_synchronizes_1 ⟨(Nat.le_of_ble_eq_true rfl), (Nat.le_of_ble_eq_true rfl)⟩ (fun n u H locs ce q9 hn hw hP hS _ hk hce hcv hcl => ?_) (fun r u H locs hw hP hS _ hk => ?_)
  · have hc9 := f_X5_synchronize_c M 
    rw [← hw] at hc9
    have hc9 : n = 2 := by simpa [inC, hn] using hc9
    subst hc9
    refine vx_catch (own := RL) (name := "java/lang/IllegalStateException") (E := "java/lang/IllegalStateException") hown [] ⟨0, 4, 5, 22⟩ [] htab (fun z hz => nomatch hz) rfl (by decide) (hts _ q_330) (va_Nw.use rfl (hKX.2.2 (.castable "java/lang/IllegalStateException" "java/lang/IllegalStateException") (List.mem_filter.mpr ⟨by decide +kernel, rfl⟩))) hce hcv hcl ?_
    refine lv_astore_n (lv' := [(1, .ref q9), (0, .ref (ad (0)))]) hx hb dL_synchronizes_5 rfl hl (by decide) rfl (fun ls hl => ?_)
    refine lv_ldc (v := (-9999003)) hx hb hown (hts _ q_423) dL_synchronizes_6 ?_
    exact W.iret (v := (-9999003)) hx hb hr (fun t ht hW => ⟨⟨(-9999003), u, rfl, wI_thr hw (by decide) (by decide), by rw [ht]; exact hP, va_K.moved hW.alike hK⟩, hS.F ht⟩) hS.2.2 dL_synchronizes_8
  · exact W.iret (v := r) hx hb hr (fun t ht hW => ⟨⟨r, u, rfl, wI_ret hw, by rw [ht]; exact hP, va_K.moved hW.alike hK⟩, hS.F ht⟩) hS.2.2 dL_synchronizes_4
