theorem hyL_pass : yL_pass.cls ≠ "java/lang/invoke/MethodHandle" ∧ yL_pass.cls ≠ "java/lang/invoke/VarHandle" ∧ (parseMethodDescriptor yL_pass.desc).map (fun d => d.parameters.length) = some 3 := by decide +kernel
set_option maxHeartbeats 4000000 in
set_option maxRecDepth 100000 in
theorem c_L_pass (l : Launch) (hfl : l.stackTraces = false) (dC : Nat → ClassId) (dI : Nat → Nat → Nat) (cA : Nat → ClassId) (ad : Nat → Nat) (hI : Inj 69 ad) (qo : Nat) (hq : ∀ k, k < 69 → qo ≠ ad k) (M : Mem) (fo : Nat → Int64) (p0 : Int32) : Met l yL_pass (.codeWith yL_pass cL_pass 4 (some .int) [(0, 8, 11, 13), (0, 8, 14, 19)] :: AG) ({ frames := 7, cells := 1, slots := 6, locals := 102 } : Room) (va_Pc [.ref (ad (0)), .int p0, .ref qo] (PW dC dI cA ad qo M fo)) (va_Qi (fun r z => WPn (fun n => if n = 1 then 1 else if n = 2 then 2 else 0) (f_X5_pass M p0) fo r z) (PWq dC dI cA ad qo) (adW ad qo)) 1 6 (adW ad qo) := by
  refine wMet (by decide) (Nat.le_of_ble_eq_true rfl) ?_
  intro p e s m below meth c ls hx hb hr hml hlocks hown hts hK hP hS hl hKX hPo hNC htab
  have hl : lv_has ls 4 [(0, .ref (ad (0))), (1, .int p0), (2, .ref qo)] := hl
  have hAW : ∀ q, adS 69 ad q → adW ad qo q := fun _ h => Or.inl h
  refine lv_aload_n hx hb dL_pass_0 rfl (lv_at hl 2 rfl) ?_
  refine lv_iconst (v := 0) hx hb dL_pass_1 (by decide) ?_
  refine lv_aload_n hx hb dL_pass_2 rfl (lv_at hl 0 rfl) ?_
  refine lv_iload_n hx hb dL_pass_3 rfl (lv_at hl 1 rfl) ?_
  refine kXl hx hb hml hown hts hK hP hS hKX (As := [.int p0]) (rest := [.int 0, .ref qo]) (c_X5_pass l hfl dC dI cA ad hI M p0) (mkV hts q_531 q_47 q_528 q_529 q_530 hyX5_pass rfl rfl ⟨(Nat.le_of_ble_eq_true rfl), (Nat.le_of_ble_eq_true rfl)⟩) (w_recv hK hP (k := 0) (by decide) lyC0 (q := (RX5, TX5, 10)) rfl) rfl hl.1 rfl (Nat.le_of_ble_eq_true rfl) dL_pass_4 ⟨(Nat.le_of_ble_eq_true rfl), (Nat.le_of_ble_eq_true rfl)⟩ (fun n u H locs ce q9 hn hw hP hS _ hk hce hcv hcl => ?_) (fun r u H locs hw hP hS _ hk => ?_)
  · have hPo1 := out_kept hPo hq hk
    have hc9 := f_X5_pass_c M p0
    rw [← hw] at hc9
    have hc9 : n = 1 ∨ n = 2 := by simpa [inC, hn] using hc9
    rcases hc9 with rfl | rfl
    · refine vx_catch (own := RL) (name := "java/lang/IllegalArgumentException") (E := "java/lang/IllegalArgumentException") hown [] ⟨0, 8, 11, 13⟩ [⟨0, 8, 14, 19⟩] htab (fun z hz => nomatch hz) rfl (by decide) (hts _ q_451) (va_Nw.use rfl (hKX.2.2 (.castable "java/lang/IllegalArgumentException" "java/lang/IllegalArgumentException") (List.mem_filter.mpr ⟨by decide +kernel, rfl⟩))) hce hcv hcl ?_
      refine lv_astore_n (lv' := [(3, .ref q9), (0, .ref (ad (0))), (1, .int p0), (2, .ref qo)]) hx hb dL_pass_11 rfl hl (by decide) rfl (fun ls hl => ?_)
      refine lv_iconst (v := 1) hx hb dL_pass_12 (by decide) ?_
      exact W.iret (v := 1) hx hb hr (fun t ht hW => ⟨⟨1, (u, fo), rfl, ⟨by rw [← hw]; rfl, by rw [← hw], fun h => absurd h (by rw [← hw]; exact (show ¬ (1 : Nat) = 0 by decide))⟩, ⟨by rw [ht]; exact hP, va_K.moved hW.alike hK⟩, by rw [ht]; exact hPo1⟩, (hS.mono hAW).F ht⟩) (hS.mono hAW).2.2 dL_pass_13
    · refine vx_catch (own := RL) (name := "java/lang/IllegalStateException") (E := "java/lang/IllegalStateException") hown [⟨0, 8, 11, 13⟩] ⟨0, 8, 14, 19⟩ [] htab (fun z hz => by rw [List.mem_singleton.mp hz]; exact Or.inr ⟨by decide, "java/lang/IllegalArgumentException", hts _ q_451, hNC ("java/lang/IllegalStateException", "java/lang/IllegalArgumentException") (by decide +kernel)⟩) rfl (by decide) (hts _ q_527) (va_Nw.use rfl (hKX.2.2 (.castable "java/lang/IllegalStateException" "java/lang/IllegalStateException") (List.mem_filter.mpr ⟨by decide +kernel, rfl⟩))) hce hcv hcl ?_
      refine lv_astore_n (lv' := [(3, .ref q9), (0, .ref (ad (0))), (1, .int p0), (2, .ref qo)]) hx hb dL_pass_14 rfl hl (by decide) rfl (fun ls hl => ?_)
      refine lv_iconst (v := 2) hx hb dL_pass_15 (by decide) ?_
      exact W.iret (v := 2) hx hb hr (fun t ht hW => ⟨⟨2, (u, fo), rfl, ⟨by rw [← hw]; rfl, by rw [← hw], fun h => absurd h (by rw [← hw]; exact (show ¬ (2 : Nat) = 0 by decide))⟩, ⟨by rw [ht]; exact hP, va_K.moved hW.alike hK⟩, by rw [ht]; exact hPo1⟩, (hS.mono hAW).F ht⟩) (hS.mono hAW).2.2 dL_pass_16
  · have hPo1 := out_kept hPo hq hk
    refine w_out hx hb hK hP hPo1 hI hq (hS.mono hAW) (fun _ h => h) dL_pass_7 (fun H locs hP hPo2 hS => ?_)
    refine lv_goto (tgt := 17) hx hb dL_pass_8 (by decide) ?_
    refine lv_iconst (v := 0) hx hb dL_pass_17 (by decide) ?_
    exact W.iret (v := 0) hx hb hr (fun t ht hW => ⟨⟨0, (u, vp_updL fo 0 (r)), rfl, ⟨by rw [← hw]; rfl, by rw [← hw], fun _ => by rw [← hw]; rfl⟩, ⟨by rw [ht]; exact hP, va_K.moved hW.alike hK⟩, by rw [ht]; exact hPo2⟩, hS.F ht⟩) hS.2.2 dL_pass_18
theorem hyL_setDrift : yL_setDrift.cls ≠ "java/lang/invoke/MethodHandle" ∧ yL_setDrift.cls ≠ "java/lang/invoke/VarHandle" ∧ (parseMethodDescriptor yL_setDrift.desc).map (fun d => d.parameters.length) = some 3 := by decide +kernel
set_option maxHeartbeats 4000000 in
set_option maxRecDepth 100000 in
theorem c_L_setDrift (l : Launch) (hfl : l.stackTraces = false) (dC : Nat → ClassId) (dI : Nat → Nat → Nat) (cA : Nat → ClassId) (ad : Nat → Nat) (hI : Inj 69 ad) (qo : Nat) (hq : ∀ k, k < 69 → qo ≠ ad k) (M : Mem) (fo : Nat → Int64) (p0 : Int32) : Met l yL_setDrift (.codeWith yL_setDrift cL_setDrift 4 (some .int) [(0, 9, 12, 13)] :: AG) ({ frames := 7, cells := 1, slots := 6, locals := 102 } : Room) (va_Pc [.ref (ad (0)), .int p0, .ref qo] (PW dC dI cA ad qo M fo)) (va_Qi (fun r z => WPn (fun n => if n = 1 then 1 else 0) (toJ (f_X5_setDrift M p0)) fo r z) (PWq dC dI cA ad qo) (adW ad qo)) 1 6 (adW ad qo) := by
  refine wMet (by decide) (Nat.le_of_ble_eq_true rfl) ?_
  intro p e s m below meth c ls hx hb hr hml hlocks hown hts hK hP hS hl hKX hPo hNC htab
  have hl : lv_has ls 4 [(0, .ref (ad (0))), (1, .int p0), (2, .ref qo)] := hl
  have hAW : ∀ q, adS 69 ad q → adW ad qo q := fun _ h => Or.inl h
  refine lv_aload_n hx hb dL_setDrift_0 rfl (lv_at hl 2 rfl) ?_
  refine lv_iconst (v := 0) hx hb dL_setDrift_1 (by decide) ?_
  refine lv_aload_n hx hb dL_setDrift_2 rfl (lv_at hl 0 rfl) ?_
  refine lv_iload_n hx hb dL_setDrift_3 rfl (lv_at hl 1 rfl) ?_
  refine kXi hx hb hml hown hts hK hP hS hKX (As := [.int p0]) (rest := [.int 0, .ref qo]) (c_X5_setDrift l hfl dC dI cA ad hI M p0) (mkV hts q_573 q_47 q_570 q_571 q_572 hyX5_setDrift rfl rfl ⟨(Nat.le_of_ble_eq_true rfl), (Nat.le_of_ble_eq_true rfl)⟩) (w_recv hK hP (k := 0) (by decide) lyC0 (q := (RX5, TX5, 10)) rfl) rfl hl.1 rfl (Nat.le_of_ble_eq_true rfl) dL_setDrift_4 ⟨(Nat.le_of_ble_eq_true rfl), (Nat.le_of_ble_eq_true rfl)⟩ (fun n u H locs ce q9 hn hw hP hS _ hk hce hcv hcl => ?_) (fun r u H locs hw hP hS _ hk => ?_)
  · have hPo1 := out_kept hPo hq hk
    have hc9 := f_X5_setDrift_c M p0
    rw [← hw] at hc9
    have hc9 : n = 1 := by simpa [inC, hn] using hc9
    subst hc9
    refine vx_catch (own := RL) (name := "java/lang/IllegalArgumentException") (E := "java/lang/IllegalArgumentException") hown [] ⟨0, 9, 12, 13⟩ [] htab (fun z hz => nomatch hz) rfl (by decide) (hts _ q_451) (va_Nw.use rfl (hKX.2.2 (.castable "java/lang/IllegalArgumentException" "java/lang/IllegalArgumentException") (List.mem_filter.mpr ⟨by decide +kernel, rfl⟩))) hce hcv hcl ?_
    refine lv_astore_n (lv' := [(3, .ref q9), (0, .ref (ad (0))), (1, .int p0), (2, .ref qo)]) hx hb dL_setDrift_12 rfl hl (by decide) rfl (fun ls hl => ?_)
    refine lv_iconst (v := 1) hx hb dL_setDrift_13 (by decide) ?_
    exact W.iret (v := 1) hx hb hr (fun t ht hW => ⟨⟨1, (u, fo), rfl, ⟨by unfold toJ; rw [← hw]; rfl, by unfold toJ; rw [← hw], fun h => absurd h (by unfold toJ; rw [← hw]; exact (show ¬ (1 : Nat) = 0 by decide))⟩, ⟨by rw [ht]; exact hP, va_K.moved hW.alike hK⟩, by rw [ht]; exact hPo1⟩, (hS.mono hAW).F ht⟩) (hS.mono hAW).2.2 dL_setDrift_14
  · have hPo1 := out_kept hPo hq hk
    refine lv_i2l (v := (r).toInt64) hx hb dL_setDrift_7 rfl ?_
    refine w_out hx hb hK hP hPo1 hI hq (hS.mono hAW) (fun _ h => h) dL_setDrift_8 (fun H locs hP hPo2 hS => ?_)
    refine lv_goto (tgt := 15) hx hb dL_setDrift_9 (by decide) ?_
    refine lv_iconst (v := 0) hx hb dL_setDrift_15 (by decide) ?_
    exact W.iret (v := 0) hx hb hr (fun t ht hW => ⟨⟨0, (u, vp_updL fo 0 (r.toInt64)), rfl, ⟨by unfold toJ; rw [← hw]; rfl, by unfold toJ; rw [← hw], fun _ => by unfold toJ; rw [← hw]; rfl⟩, ⟨by rw [ht]; exact hP, va_K.moved hW.alike hK⟩, by rw [ht]; exact hPo2⟩, hS.F ht⟩) hS.2.2 dL_setDrift_16
theorem hyL_announceLeap : yL_announceLeap.cls ≠ "java/lang/invoke/MethodHandle" ∧ yL_announceLeap.cls ≠ "java/lang/invoke/VarHandle" ∧ (parseMethodDescriptor yL_announceLeap.desc).map (fun d => d.parameters.length) = some 4 := by decide +kernel
set_option maxHeartbeats 4000000 in
set_option maxRecDepth 100000 in
theorem c_L_announceLeap (l : Launch) (hfl : l.stackTraces = false) (dC : Nat → ClassId) (dI : Nat → Nat → Nat) (cA : Nat → ClassId) (ad : Nat → Nat) (hI : Inj 69 ad) (qo : Nat) (hq : ∀ k, k < 69 → qo ≠ ad k) (M : Mem) (fo : Nat → Int64) (p0 : Int32) (p1 : Int32) : Met l yL_announceLeap (.codeWith yL_announceLeap cL_announceLeap 5 (some .int) [(0, 9, 12, 13), (0, 9, 16, 19)] :: AG) ({ frames := 7, cells := 1, slots := 6, locals := 105 } : Room) (va_Pc [.ref (ad (0)), .int p0, .int p1, .ref qo] (PW dC dI cA ad qo M fo)) (va_Qi (fun r z => WPn (fun n => if n = 1 then 1 else if n = 2 then 2 else 0) (f_X5_announceLeap M p0 p1) fo r z) (PWq dC dI cA ad qo) (adW ad qo)) 1 6 (adW ad qo) := by
  refine wMet (by decide) (Nat.le_of_ble_eq_true rfl) ?_
  intro p e s m below meth c ls hx hb hr hml hlocks hown hts hK hP hS hl hKX hPo hNC htab
  have hl : lv_has ls 5 [(0, .ref (ad (0))), (1, .int p0), (2, .int p1), (3, .ref qo)] := hl
  have hAW : ∀ q, adS 69 ad q → adW ad qo q := fun _ h => Or.inl h
  refine lv_aload_n hx hb dL_announceLeap_0 rfl (lv_at hl 3 rfl) ?_
  refine lv_iconst (v := 0) hx hb dL_announceLeap_1 (by decide) ?_
  refine lv_aload_n hx hb dL_announceLeap_2 rfl (lv_at hl 0 rfl) ?_
  refine lv_iload_n hx hb dL_announceLeap_3 rfl (lv_at hl 1 rfl) ?_
  refine lv_iload_n hx hb dL_announceLeap_4 rfl (lv_at hl 2 rfl) ?_
  refine kXl hx hb hml hown hts hK hP hS hKX (As := [.int p0, .int p1]) (rest := [.int 0, .ref qo]) (c_X5_announceLeap l hfl dC dI cA ad hI M p0 p1) (mkV hts q_584 q_47 q_581 q_582 q_583 hyX5_announceLeap rfl rfl ⟨(Nat.le_of_ble_eq_true rfl), (Nat.le_of_ble_eq_true rfl)⟩) (w_recv hK hP (k := 0) (by decide) lyC0 (q := (RX5, TX5, 10)) rfl) rfl hl.1 rfl (Nat.le_of_ble_eq_true rfl) dL_announceLeap_5 ⟨(Nat.le_of_ble_eq_true rfl), (Nat.le_of_ble_eq_true rfl)⟩ (fun n u H locs ce q9 hn hw hP hS _ hk hce hcv hcl => ?_) (fun r u H locs hw hP hS _ hk => ?_)
  · have hPo1 := out_kept hPo hq hk
    have hc9 := f_X5_announceLeap_c M p0 p1
    rw [← hw] at hc9
    have hc9 : n = 1 ∨ n = 2 := by simpa [inC, hn] using hc9
    rcases hc9 with rfl | rfl
    · refine vx_catch (own := RL) (name := "java/lang/IllegalArgumentException") (E := "java/lang/IllegalArgumentException") hown [] ⟨0, 9, 12, 13⟩ [⟨0, 9, 16, 19⟩] htab (fun z hz => nomatch hz) rfl (by decide) (hts _ q_451) (va_Nw.use rfl (hKX.2.2 (.castable "java/lang/IllegalArgumentException" "java/lang/IllegalArgumentException") (List.mem_filter.mpr ⟨by decide +kernel, rfl⟩))) hce hcv hcl ?_
      refine lv_astore (lv' := [(4, .ref q9), (0, .ref (ad (0))), (1, .int p0), (2, .int p1), (3, .ref qo)]) hx hb dL_announceLeap_12 hl (by decide) rfl (fun ls hl => ?_)
      refine lv_iconst (v := 1) hx hb dL_announceLeap_14 (by decide) ?_
      exact W.iret (v := 1) hx hb hr (fun t ht hW => ⟨⟨1, (u, fo), rfl, ⟨by rw [← hw]; rfl, by rw [← hw], fun h => absurd h (by rw [← hw]; exact (show ¬ (1 : Nat) = 0 by decide))⟩, ⟨by rw [ht]; exact hP, va_K.moved hW.alike hK⟩, by rw [ht]; exact hPo1⟩, (hS.mono hAW).F ht⟩) (hS.mono hAW).2.2 dL_announceLeap_15
    · refine vx_catch (own := RL) (name := "java/lang/IllegalStateException") (E := "java/lang/IllegalStateException") hown [⟨0, 9, 12, 13⟩] ⟨0, 9, 16, 19⟩ [] htab (fun z hz => by rw [List.mem_singleton.mp hz]; exact Or.inr ⟨by decide, "java/lang/IllegalArgumentException", hts _ q_451, hNC ("java/lang/IllegalStateException", "java/lang/IllegalArgumentException") (by decide +kernel)⟩) rfl (by decide) (hts _ q_527) (va_Nw.use rfl (hKX.2.2 (.castable "java/lang/IllegalStateException" "java/lang/IllegalStateException") (List.mem_filter.mpr ⟨by decide +kernel, rfl⟩))) hce hcv hcl ?_
      refine lv_astore (lv' := [(4, .ref q9), (0, .ref (ad (0))), (1, .int p0), (2, .int p1), (3, .ref qo)]) hx hb dL_announceLeap_16 hl (by decide) rfl (fun ls hl => ?_)
      refine lv_iconst (v := 2) hx hb dL_announceLeap_18 (by decide) ?_
      exact W.iret (v := 2) hx hb hr (fun t ht hW => ⟨⟨2, (u, fo), rfl, ⟨by rw [← hw]; rfl, by rw [← hw], fun h => absurd h (by rw [← hw]; exact (show ¬ (2 : Nat) = 0 by decide))⟩, ⟨by rw [ht]; exact hP, va_K.moved hW.alike hK⟩, by rw [ht]; exact hPo1⟩, (hS.mono hAW).F ht⟩) (hS.mono hAW).2.2 dL_announceLeap_19
  · have hPo1 := out_kept hPo hq hk
    refine w_out hx hb hK hP hPo1 hI hq (hS.mono hAW) (fun _ h => h) dL_announceLeap_8 (fun H locs hP hPo2 hS => ?_)
    refine lv_goto (tgt := 20) hx hb dL_announceLeap_9 (by decide) ?_
    refine lv_iconst (v := 0) hx hb dL_announceLeap_20 (by decide) ?_
    exact W.iret (v := 0) hx hb hr (fun t ht hW => ⟨⟨0, (u, vp_updL fo 0 (r)), rfl, ⟨by rw [← hw]; rfl, by rw [← hw], fun _ => by rw [← hw]; rfl⟩, ⟨by rw [ht]; exact hP, va_K.moved hW.alike hK⟩, by rw [ht]; exact hPo2⟩, hS.F ht⟩) hS.2.2 dL_announceLeap_21
theorem hyL_addServer : yL_addServer.cls ≠ "java/lang/invoke/MethodHandle" ∧ yL_addServer.cls ≠ "java/lang/invoke/VarHandle" ∧ (parseMethodDescriptor yL_addServer.desc).map (fun d => d.parameters.length) = some 6 := by decide +kernel
set_option maxHeartbeats 4000000 in
set_option maxRecDepth 100000 in
theorem c_L_addServer (l : Launch) (hfl : l.stackTraces = false) (dC : Nat → ClassId) (dI : Nat → Nat → Nat) (cA : Nat → ClassId) (ad : Nat → Nat) (hI : Inj 69 ad) (qo : Nat) (hq : ∀ k, k < 69 → qo ≠ ad k) (M : Mem) (fo : Nat → Int64) (p0 : Int32) (p1 : Int32) (p2 : Int32) (p3 : Int32) : Met l yL_addServer (.codeWith yL_addServer cL_addServer 7 (some .int) [(0, 14, 17, 13), (0, 14, 21, 19)] :: AG) ({ frames := 7, cells := 1, slots := 6, locals := 106 } : Room) (va_Pc [.ref (ad (0)), .int p0, .int p1, .int p2, .int p3, .ref qo] (PW dC dI cA ad qo M fo)) (va_Qi (fun r z => WPn (fun n => if n = 1 then 1 else if n = 2 then 2 else 0) (toJ (f_X5_addServer M p0 p1 p2 p3)) fo r z) (PWq dC dI cA ad qo) (adW ad qo)) 1 6 (adW ad qo) := by
  refine wMet (by decide) (Nat.le_of_ble_eq_true rfl) ?_
  intro p e s m below meth c ls hx hb hr hml hlocks hown hts hK hP hS hl hKX hPo hNC htab
  have hl : lv_has ls 7 [(0, .ref (ad (0))), (1, .int p0), (2, .int p1), (3, .int p2), (4, .int p3), (5, .ref qo)] := hl
  have hAW : ∀ q, adS 69 ad q → adW ad qo q := fun _ h => Or.inl h
  refine lv_aload hx hb dL_addServer_0 (lv_at hl 5 rfl) ?_
  refine lv_iconst (v := 0) hx hb dL_addServer_2 (by decide) ?_
  refine lv_aload_n hx hb dL_addServer_3 rfl (lv_at hl 0 rfl) ?_
  refine lv_iload_n hx hb dL_addServer_4 rfl (lv_at hl 1 rfl) ?_
  refine lv_iload_n hx hb dL_addServer_5 rfl (lv_at hl 2 rfl) ?_
  refine lv_iload_n hx hb dL_addServer_6 rfl (lv_at hl 3 rfl) ?_
  refine lv_iload hx hb dL_addServer_7 (lv_at hl 4 rfl) ?_
  refine kXi hx hb hml hown hts hK hP hS hKX (As := [.int p0, .int p1, .int p2, .int p3]) (rest := [.int 0, .ref qo]) (c_X5_addServer l hfl dC dI cA ad hI M p0 p1 p2 p3) (mkV hts q_600 q_47 q_597 q_598 q_599 hyX5_addServer rfl rfl ⟨(Nat.le_of_ble_eq_true rfl), (Nat.le_of_ble_eq_true rfl)⟩) (w_recv hK hP (k := 0) (by decide) lyC0 (q := (RX5, TX5, 10)) rfl) rfl hl.1 rfl (Nat.le_of_ble_eq_true rfl) dL_addServer_9 ⟨(Nat.le_of_ble_eq_true rfl), (Nat.le_of_ble_eq_true rfl)⟩ (fun n u H locs ce q9 hn hw hP hS _ hk hce hcv hcl => ?_) (fun r u H locs hw hP hS _ hk => ?_)
  · have hPo1 := out_kept hPo hq hk
    have hc9 := f_X5_addServer_c M p0 p1 p2 p3
    rw [← hw] at hc9
    have hc9 : n = 1 ∨ n = 2 := by simpa [inC, hn] using hc9
    rcases hc9 with rfl | rfl
    · refine vx_catch (own := RL) (name := "java/lang/IllegalArgumentException") (E := "java/lang/IllegalArgumentException") hown [] ⟨0, 14, 17, 13⟩ [⟨0, 14, 21, 19⟩] htab (fun z hz => nomatch hz) rfl (by decide) (hts _ q_451) (va_Nw.use rfl (hKX.2.2 (.castable "java/lang/IllegalArgumentException" "java/lang/IllegalArgumentException") (List.mem_filter.mpr ⟨by decide +kernel, rfl⟩))) hce hcv hcl ?_
      refine lv_astore (lv' := [(6, .ref q9), (0, .ref (ad (0))), (1, .int p0), (2, .int p1), (3, .int p2), (4, .int p3), (5, .ref qo)]) hx hb dL_addServer_17 hl (by decide) rfl (fun ls hl => ?_)
      refine lv_iconst (v := 1) hx hb dL_addServer_19 (by decide) ?_
      exact W.iret (v := 1) hx hb hr (fun t ht hW => ⟨⟨1, (u, fo), rfl, ⟨by unfold toJ; rw [← hw]; rfl, by unfold toJ; rw [← hw], fun h => absurd h (by unfold toJ; rw [← hw]; exact (show ¬ (1 : Nat) = 0 by decide))⟩, ⟨by rw [ht]; exact hP, va_K.moved hW.alike hK⟩, by rw [ht]; exact hPo1⟩, (hS.mono hAW).F ht⟩) (hS.mono hAW).2.2 dL_addServer_20
    · refine vx_catch (own := RL) (name := "java/lang/IllegalStateException") (E := "java/lang/IllegalStateException") hown [⟨0, 14, 17, 13⟩] ⟨0, 14, 21, 19⟩ [] htab (fun z hz => by rw [List.mem_singleton.mp hz]; exact Or.inr ⟨by decide, "java/lang/IllegalArgumentException", hts _ q_451, hNC ("java/lang/IllegalStateException", "java/lang/IllegalArgumentException") (by decide +kernel)⟩) rfl (by decide) (hts _ q_527) (va_Nw.use rfl (hKX.2.2 (.castable "java/lang/IllegalStateException" "java/lang/IllegalStateException") (List.mem_filter.mpr ⟨by decide +kernel, rfl⟩))) hce hcv hcl ?_
      refine lv_astore (lv' := [(6, .ref q9), (0, .ref (ad (0))), (1, .int p0), (2, .int p1), (3, .int p2), (4, .int p3), (5, .ref qo)]) hx hb dL_addServer_21 hl (by decide) rfl (fun ls hl => ?_)
      refine lv_iconst (v := 2) hx hb dL_addServer_23 (by decide) ?_
      exact W.iret (v := 2) hx hb hr (fun t ht hW => ⟨⟨2, (u, fo), rfl, ⟨by unfold toJ; rw [← hw]; rfl, by unfold toJ; rw [← hw], fun h => absurd h (by unfold toJ; rw [← hw]; exact (show ¬ (2 : Nat) = 0 by decide))⟩, ⟨by rw [ht]; exact hP, va_K.moved hW.alike hK⟩, by rw [ht]; exact hPo1⟩, (hS.mono hAW).F ht⟩) (hS.mono hAW).2.2 dL_addServer_24
  · have hPo1 := out_kept hPo hq hk
    refine lv_i2l (v := (r).toInt64) hx hb dL_addServer_12 rfl ?_
    refine w_out hx hb hK hP hPo1 hI hq (hS.mono hAW) (fun _ h => h) dL_addServer_13 (fun H locs hP hPo2 hS => ?_)
    refine lv_goto (tgt := 25) hx hb dL_addServer_14 (by decide) ?_
    refine lv_iconst (v := 0) hx hb dL_addServer_25 (by decide) ?_
    exact W.iret (v := 0) hx hb hr (fun t ht hW => ⟨⟨0, (u, vp_updL fo 0 (r.toInt64)), rfl, ⟨by unfold toJ; rw [← hw]; rfl, by unfold toJ; rw [← hw], fun _ => by unfold toJ; rw [← hw]; rfl⟩, ⟨by rw [ht]; exact hP, va_K.moved hW.alike hK⟩, by rw [ht]; exact hPo2⟩, hS.F ht⟩) hS.2.2 dL_addServer_26
theorem hyL_setError : yL_setError.cls ≠ "java/lang/invoke/MethodHandle" ∧ yL_setError.cls ≠ "java/lang/invoke/VarHandle" ∧ (parseMethodDescriptor yL_setError.desc).map (fun d => d.parameters.length) = some 4 := by decide +kernel
set_option maxHeartbeats 4000000 in
set_option maxRecDepth 100000 in
theorem c_L_setError (l : Launch) (hfl : l.stackTraces = false) (dC : Nat → ClassId) (dI : Nat → Nat → Nat) (cA : Nat → ClassId) (ad : Nat → Nat) (hI : Inj 69 ad) (qo : Nat) (hq : ∀ k, k < 69 → qo ≠ ad k) (M : Mem) (fo : Nat → Int64) (p0 : Int32) (p1 : Int32) : Met l yL_setError (.codeWith yL_setError cL_setError 5 (some .int) [(0, 10, 13, 37), (0, 10, 17, 13)] :: AG) ({ frames := 8, cells := 2, slots := 12, locals := 126 } : Room) (va_Pc [.ref (ad (0)), .int p0, .int p1, .ref qo] (PW dC dI cA ad qo M fo)) (va_Qi (fun r z => WPn (fun n => if n = 3 then 1 else if n = 1 then 2 else 0) (toJ (f_X5_setError M p0 p1)) fo r z) (PWq dC dI cA ad qo) (adW ad qo)) 2 12 (adW ad qo) := by
  refine wMet (by decide) (Nat.le_of_ble_eq_true rfl) ?_
  intro p e s m below meth c ls hx hb hr hml hlocks hown hts hK hP hS hl hKX hPo hNC htab
  have hl : lv_has ls 5 [(0, .ref (ad (0))), (1, .int p0), (2, .int p1), (3, .ref qo)] := hl
  have hAW : ∀ q, adS 69 ad q → adW ad qo q := fun _ h => Or.inl h
  refine lv_aload_n hx hb dL_setError_0 rfl (lv_at hl 3 rfl) ?_
  refine lv_iconst (v := 0) hx hb dL_setError_1 (by decide) ?_
  refine lv_aload_n hx hb dL_setError_2 rfl (lv_at hl 0 rfl) ?_
  refine lv_iload_n hx hb dL_setError_3 rfl (lv_at hl 1 rfl) ?_
  refine lv_iload_n hx hb dL_setError_4 rfl (lv_at hl 2 rfl) ?_
  refine kXi hx hb hml hown hts hK hP hS hKX (As := [.int p0, .int p1]) (rest := [.int 0, .ref qo]) (c_X5_setError l hfl dC dI cA ad hI M p0 p1) (mkV hts q_621 q_47 q_618 q_619 q_620 hyX5_setError rfl rfl ⟨(Nat.le_of_ble_eq_true rfl), (Nat.le_of_ble_eq_true rfl)⟩) (w_recv hK hP (k := 0) (by decide) lyC0 (q := (RX5, TX5, 10)) rfl) rfl hl.1 rfl (Nat.le_of_ble_eq_true rfl) dL_setError_5 ⟨(Nat.le_of_ble_eq_true rfl), (Nat.le_of_ble_eq_true rfl)⟩ (fun n u H locs ce q9 hn hw hP hS _ hk hce hcv hcl => ?_) (fun r u H locs hw hP hS _ hk => ?_)
  · have hPo1 := out_kept hPo hq hk
    have hc9 := f_X5_setError_c M p0 p1
    rw [← hw] at hc9
    have hc9 : n = 3 ∨ n = 1 := by simpa [inC, hn] using hc9
    rcases hc9 with rfl | rfl
    · refine vx_catch (own := RL) (name := "java/lang/IndexOutOfBoundsException") (E := "java/lang/IndexOutOfBoundsException") hown [] ⟨0, 10, 13, 37⟩ [⟨0, 10, 17, 13⟩] htab (fun z hz => nomatch hz) rfl (by decide) (hts _ q_617) (va_Nw.use rfl (hKX.2.2 (.castable "java/lang/IndexOutOfBoundsException" "java/lang/IndexOutOfBoundsException") (List.mem_filter.mpr ⟨by decide +kernel, rfl⟩))) hce hcv hcl ?_
      refine lv_astore (lv' := [(4, .ref q9), (0, .ref (ad (0))), (1, .int p0), (2, .int p1), (3, .ref qo)]) hx hb dL_setError_13 hl (by decide) rfl (fun ls hl => ?_)
      refine lv_iconst (v := 1) hx hb dL_setError_15 (by decide) ?_
      exact W.iret (v := 1) hx hb hr (fun t ht hW => ⟨⟨1, (u, fo), rfl, ⟨by unfold toJ; rw [← hw]; rfl, by unfold toJ; rw [← hw], fun h => absurd h (by unfold toJ; rw [← hw]; exact (show ¬ (3 : Nat) = 0 by decide))⟩, ⟨by rw [ht]; exact hP, va_K.moved hW.alike hK⟩, by rw [ht]; exact hPo1⟩, (hS.mono hAW).F ht⟩) (hS.mono hAW).2.2 dL_setError_16
    · refine vx_catch (own := RL) (name := "java/lang/IllegalArgumentException") (E := "java/lang/IllegalArgumentException") hown [⟨0, 10, 13, 37⟩] ⟨0, 10, 17, 13⟩ [] htab (fun z hz => by rw [List.mem_singleton.mp hz]; exact Or.inr ⟨by decide, "java/lang/IndexOutOfBoundsException", hts _ q_617, hNC ("java/lang/IllegalArgumentException", "java/lang/IndexOutOfBoundsException") (by decide +kernel)⟩) rfl (by decide) (hts _ q_451) (va_Nw.use rfl (hKX.2.2 (.castable "java/lang/IllegalArgumentException" "java/lang/IllegalArgumentException") (List.mem_filter.mpr ⟨by decide +kernel, rfl⟩))) hce hcv hcl ?_
      refine lv_astore (lv' := [(4, .ref q9), (0, .ref (ad (0))), (1, .int p0), (2, .int p1), (3, .ref qo)]) hx hb dL_setError_17 hl (by decide) rfl (fun ls hl => ?_)
      refine lv_iconst (v := 2) hx hb dL_setError_19 (by decide) ?_
      exact W.iret (v := 2) hx hb hr (fun t ht hW => ⟨⟨2, (u, fo), rfl, ⟨by unfold toJ; rw [← hw]; rfl, by unfold toJ; rw [← hw], fun h => absurd h (by unfold toJ; rw [← hw]; exact (show ¬ (1 : Nat) = 0 by decide))⟩, ⟨by rw [ht]; exact hP, va_K.moved hW.alike hK⟩, by rw [ht]; exact hPo1⟩, (hS.mono hAW).F ht⟩) (hS.mono hAW).2.2 dL_setError_20
  · have hPo1 := out_kept hPo hq hk
    refine lv_i2l (v := (r).toInt64) hx hb dL_setError_8 rfl ?_
    refine w_out hx hb hK hP hPo1 hI hq (hS.mono hAW) (fun _ h => h) dL_setError_9 (fun H locs hP hPo2 hS => ?_)
    refine lv_goto (tgt := 21) hx hb dL_setError_10 (by decide) ?_
    refine lv_iconst (v := 0) hx hb dL_setError_21 (by decide) ?_
    exact W.iret (v := 0) hx hb hr (fun t ht hW => ⟨⟨0, (u, vp_updL fo 0 (r.toInt64)), rfl, ⟨by unfold toJ; rw [← hw]; rfl, by unfold toJ; rw [← hw], fun _ => by unfold toJ; rw [← hw]; rfl⟩, ⟨by rw [ht]; exact hP, va_K.moved hW.alike hK⟩, by rw [ht]; exact hPo2⟩, hS.F ht⟩) hS.2.2 dL_setError_22
theorem hyL_exchange : yL_exchange.cls ≠ "java/lang/invoke/MethodHandle" ∧ yL_exchange.cls ≠ "java/lang/invoke/VarHandle" ∧ (parseMethodDescriptor yL_exchange.desc).map (fun d => d.parameters.length) = some 6 := by decide +kernel
set_option maxHeartbeats 4000000 in
set_option maxRecDepth 100000 in
theorem c_L_exchange (l : Launch) (hfl : l.stackTraces = false) (dC : Nat → ClassId) (dI : Nat → Nat → Nat) (cA : Nat → ClassId) (ad : Nat → Nat) (hI : Inj 69 ad) (qo : Nat) (hq : ∀ k, k < 69 → qo ≠ ad k) (M : Mem) (fo : Nat → Int64) (p0 : Int32) (p1 : Int32) (p2 : Int32) (p3 : Int32) : Met l yL_exchange (.codeWith yL_exchange cL_exchange 7 (some .int) [(0, 13, 16, 37), (0, 13, 20, 13), (0, 13, 24, 19)] :: AG) ({ frames := 8, cells := 2, slots := 12, locals := 133 } : Room) (va_Pc [.ref (ad (0)), .int p0, .int p1, .int p2, .int p3, .ref qo] (PW dC dI cA ad qo M fo)) (va_Qi (fun r z => WPn (fun n => if n = 3 then 1 else if n = 1 then 2 else if n = 2 then 3 else 0) (f_X5_exchange M p0 p1 p2 p3) fo r z) (PWq dC dI cA ad qo) (adW ad qo)) 2 12 (adW ad qo) := by
  refine wMet (by decide) (Nat.le_of_ble_eq_true rfl) ?_
  intro p e s m below meth c ls hx hb hr hml hlocks hown hts hK hP hS hl hKX hPo hNC htab
  have hl : lv_has ls 7 [(0, .ref (ad (0))), (1, .int p0), (2, .int p1), (3, .int p2), (4, .int p3), (5, .ref qo)] := hl
  have hAW : ∀ q, adS 69 ad q → adW ad qo q := fun _ h => Or.inl h
  refine lv_aload hx hb dL_exchange_0 (lv_at hl 5 rfl) ?_
  refine lv_iconst (v := 0) hx hb dL_exchange_2 (by decide) ?_
  refine lv_aload_n hx hb dL_exchange_3 rfl (lv_at hl 0 rfl) ?_
  refine lv_iload_n hx hb dL_exchange_4 rfl (lv_at hl 1 rfl) ?_
  refine lv_iload_n hx hb dL_exchange_5 rfl (lv_at hl 2 rfl) ?_
  refine lv_iload_n hx hb dL_exchange_6 rfl (lv_at hl 3 rfl) ?_
  refine lv_iload hx hb dL_exchange_7 (lv_at hl 4 rfl) ?_
  refine kXl hx hb hml hown hts hK hP hS hKX (As := [.int p0, .int p1, .int p2, .int p3]) (rest := [.int 0, .ref qo]) (c_X5_exchange l hfl dC dI cA ad hI M p0 p1 p2 p3) (mkV hts q_651 q_47 q_648 q_649 q_650 hyX5_exchange rfl rfl ⟨(Nat.le_of_ble_eq_true rfl), (Nat.le_of_ble_eq_true rfl)⟩) (w_recv hK hP (k := 0) (by decide) lyC0 (q := (RX5, TX5, 10)) rfl) rfl hl.1 rfl (Nat.le_of_ble_eq_true rfl) dL_exchange_9 ⟨(Nat.le_of_ble_eq_true rfl), (Nat.le_of_ble_eq_true rfl)⟩ (fun n u H locs ce q9 hn hw hP hS _ hk hce hcv hcl => ?_) (fun r u H locs hw hP hS _ hk => ?_)
  · have hPo1 := out_kept hPo hq hk
    have hc9 := f_X5_exchange_c M p0 p1 p2 p3
    rw [← hw] at hc9
    have hc9 : n = 3 ∨ n = 1 ∨ n = 2 := by simpa [inC, hn] using hc9
    rcases hc9 with rfl | rfl | rfl
    · refine vx_catch (own := RL) (name := "java/lang/IndexOutOfBoundsException") (E := "java/lang/IndexOutOfBoundsException") hown [] ⟨0, 13, 16, 37⟩ [⟨0, 13, 20, 13⟩, ⟨0, 13, 24, 19⟩] htab (fun z hz => nomatch hz) rfl (by decide) (hts _ q_617) (va_Nw.use rfl (hKX.2.2 (.castable "java/lang/IndexOutOfBoundsException" "java/lang/IndexOutOfBoundsException") (List.mem_filter.mpr ⟨by decide +kernel, rfl⟩))) hce hcv hcl ?_
      refine lv_astore (lv' := [(6, .ref q9), (0, .ref (ad (0))), (1, .int p0), (2, .int p1), (3, .int p2), (4, .int p3), (5, .ref qo)]) hx hb dL_exchange_16 hl (by decide) rfl (fun ls hl => ?_)
      refine lv_iconst (v := 1) hx hb dL_exchange_18 (by decide) ?_
      exact W.iret (v := 1) hx hb hr (fun t ht hW => ⟨⟨1, (u, fo), rfl, ⟨by rw [← hw]; rfl, by rw [← hw], fun h => absurd h (by rw [← hw]; exact (show ¬ (3 : Nat) = 0 by decide))⟩, ⟨by rw [ht]; exact hP, va_K.moved hW.alike hK⟩, by rw [ht]; exact hPo1⟩, (hS.mono hAW).F ht⟩) (hS.mono hAW).2.2 dL_exchange_19
    · refine vx_catch (own := RL) (name := "java/lang/IllegalArgumentException") (E := "java/lang/IllegalArgumentException") hown [⟨0, 13, 16, 37⟩] ⟨0, 13, 20, 13⟩ [⟨0, 13, 24, 19⟩] htab (fun z hz => by rw [List.mem_singleton.mp hz]; exact Or.inr ⟨by decide, "java/lang/IndexOutOfBoundsException", hts _ q_617, hNC ("java/lang/IllegalArgumentException", "java/lang/IndexOutOfBoundsException") (by decide +kernel)⟩) rfl (by decide) (hts _ q_451) (va_Nw.use rfl (hKX.2.2 (.castable "java/lang/IllegalArgumentException" "java/lang/IllegalArgumentException") (List.mem_filter.mpr ⟨by decide +kernel, rfl⟩))) hce hcv hcl ?_
      refine lv_astore (lv' := [(6, .ref q9), (0, .ref (ad (0))), (1, .int p0), (2, .int p1), (3, .int p2), (4, .int p3), (5, .ref qo)]) hx hb dL_exchange_20 hl (by decide) rfl (fun ls hl => ?_)
      refine lv_iconst (v := 2) hx hb dL_exchange_22 (by decide) ?_
      exact W.iret (v := 2) hx hb hr (fun t ht hW => ⟨⟨2, (u, fo), rfl, ⟨by rw [← hw]; rfl, by rw [← hw], fun h => absurd h (by rw [← hw]; exact (show ¬ (1 : Nat) = 0 by decide))⟩, ⟨by rw [ht]; exact hP, va_K.moved hW.alike hK⟩, by rw [ht]; exact hPo1⟩, (hS.mono hAW).F ht⟩) (hS.mono hAW).2.2 dL_exchange_23
    · refine vx_catch (own := RL) (name := "java/lang/IllegalStateException") (E := "java/lang/IllegalStateException") hown [⟨0, 13, 16, 37⟩, ⟨0, 13, 20, 13⟩] ⟨0, 13, 24, 19⟩ [] htab (fun z hz => (List.mem_cons.mp hz).elim (fun h => by rw [h]; exact Or.inr ⟨by decide, "java/lang/IndexOutOfBoundsException", hts _ q_617, hNC ("java/lang/IllegalStateException", "java/lang/IndexOutOfBoundsException") (by decide +kernel)⟩) (fun h => by rw [List.mem_singleton.mp h]; exact Or.inr ⟨by decide, "java/lang/IllegalArgumentException", hts _ q_451, hNC ("java/lang/IllegalStateException", "java/lang/IllegalArgumentException") (by decide +kernel)⟩)) rfl (by decide) (hts _ q_527) (va_Nw.use rfl (hKX.2.2 (.castable "java/lang/IllegalStateException" "java/lang/IllegalStateException") (List.mem_filter.mpr ⟨by decide +kernel, rfl⟩))) hce hcv hcl ?_
      refine lv_astore (lv' := [(6, .ref q9), (0, .ref (ad (0))), (1, .int p0), (2, .int p1), (3, .int p2), (4, .int p3), (5, .ref qo)]) hx hb dL_exchange_24 hl (by decide) rfl (fun ls hl => ?_)
      refine lv_iconst (v := 3) hx hb dL_exchange_26 (by decide) ?_
      exact W.iret (v := 3) hx hb hr (fun t ht hW => ⟨⟨3, (u, fo), rfl, ⟨by rw [← hw]; rfl, by rw [← hw], fun h => absurd h (by rw [← hw]; exact (show ¬ (2 : Nat) = 0 by decide))⟩, ⟨by rw [ht]; exact hP, va_K.moved hW.alike hK⟩, by rw [ht]; exact hPo1⟩, (hS.mono hAW).F ht⟩) (hS.mono hAW).2.2 dL_exchange_27
  · have hPo1 := out_kept hPo hq hk
    refine w_out hx hb hK hP hPo1 hI hq (hS.mono hAW) (fun _ h => h) dL_exchange_12 (fun H locs hP hPo2 hS => ?_)
    refine lv_goto (tgt := 28) hx hb dL_exchange_13 (by decide) ?_
    refine lv_iconst (v := 0) hx hb dL_exchange_28 (by decide) ?_
    exact W.iret (v := 0) hx hb hr (fun t ht hW => ⟨⟨0, (u, vp_updL fo 0 (r)), rfl, ⟨by rw [← hw]; rfl, by rw [← hw], fun _ => by rw [← hw]; rfl⟩, ⟨by rw [ht]; exact hP, va_K.moved hW.alike hK⟩, by rw [ht]; exact hPo2⟩, hS.F ht⟩) hS.2.2 dL_exchange_29
theorem hyL_samples : yL_samples.cls ≠ "java/lang/invoke/MethodHandle" ∧ yL_samples.cls ≠ "java/lang/invoke/VarHandle" ∧ (parseMethodDescriptor yL_samples.desc).map (fun d => d.parameters.length) = some 3 := by decide +kernel
set_option maxHeartbeats 4000000 in
set_option maxRecDepth 100000 in
theorem c_L_samples (l : Launch) (hfl : l.stackTraces = false) (dC : Nat → ClassId) (dI : Nat → Nat → Nat) (cA : Nat → ClassId) (ad : Nat → Nat) (hI : Inj 69 ad) (qo : Nat) (hq : ∀ k, k < 69 → qo ≠ ad k) (M : Mem) (fo : Nat → Int64) (p0 : Int32) : Met l yL_samples (.codeWith yL_samples cL_samples 4 (some .int) [(0, 9, 12, 37)] :: AG) ({ frames := 8, cells := 1, slots := 6, locals := 124 } : Room) (va_Pc [.ref (ad (0)), .int p0, .ref qo] (PW dC dI cA ad qo M fo)) (va_Qi (fun r z => WPn (fun n => if n = 3 then 1 else 0) (toJ (f_X5_samples M p0)) fo r z) (PWq dC dI cA ad qo) (adW ad qo)) 1 6 (adW ad qo) := by
  refine wMet (by decide) (Nat.le_of_ble_eq_true rfl) ?_
  intro p e s m below meth c ls hx hb hr hml hlocks hown hts hK hP hS hl hKX hPo hNC htab
  have hl : lv_has ls 4 [(0, .ref (ad (0))), (1, .int p0), (2, .ref qo)] := hl
  have hAW : ∀ q, adS 69 ad q → adW ad qo q := fun _ h => Or.inl h
  refine lv_aload_n hx hb dL_samples_0 rfl (lv_at hl 2 rfl) ?_
  refine lv_iconst (v := 0) hx hb dL_samples_1 (by decide) ?_
  refine lv_aload_n hx hb dL_samples_2 rfl (lv_at hl 0 rfl) ?_
  refine lv_iload_n hx hb dL_samples_3 rfl (lv_at hl 1 rfl) ?_
  refine kXi hx hb hml hown hts hK hP hS hKX (As := [.int p0]) (rest := [.int 0, .ref qo]) (c_X5_samples l hfl dC dI cA ad hI M p0) (mkV hts q_688 q_47 q_685 q_686 q_687 hyX5_samples rfl rfl ⟨(Nat.le_of_ble_eq_true rfl), (Nat.le_of_ble_eq_true rfl)⟩) (w_recv hK hP (k := 0) (by decide) lyC0 (q := (RX5, TX5, 10)) rfl) rfl hl.1 rfl (Nat.le_of_ble_eq_true rfl) dL_samples_4 ⟨(Nat.le_of_ble_eq_true rfl), (Nat.le_of_ble_eq_true rfl)⟩ (fun n u H locs ce q9 hn hw hP hS _ hk hce hcv hcl => ?_) (fun r u H locs hw hP hS _ hk => ?_)
  · have hPo1 := out_kept hPo hq hk
    have hc9 := f_X5_samples_c M p0
    rw [← hw] at hc9
    have hc9 : n = 3 := by simpa [inC, hn] using hc9
    subst hc9
    refine vx_catch (own := RL) (name := "java/lang/IndexOutOfBoundsException") (E := "java/lang/IndexOutOfBoundsException") hown [] ⟨0, 9, 12, 37⟩ [] htab (fun z hz => nomatch hz) rfl (by decide) (hts _ q_617) (va_Nw.use rfl (hKX.2.2 (.castable "java/lang/IndexOutOfBoundsException" "java/lang/IndexOutOfBoundsException") (List.mem_filter.mpr ⟨by decide +kernel, rfl⟩))) hce hcv hcl ?_
    refine lv_astore_n (lv' := [(3, .ref q9), (0, .ref (ad (0))), (1, .int p0), (2, .ref qo)]) hx hb dL_samples_12 rfl hl (by decide) rfl (fun ls hl => ?_)
    refine lv_iconst (v := 1) hx hb dL_samples_13 (by decide) ?_
    exact W.iret (v := 1) hx hb hr (fun t ht hW => ⟨⟨1, (u, fo), rfl, ⟨by unfold toJ; rw [← hw]; rfl, by unfold toJ; rw [← hw], fun h => absurd h (by unfold toJ; rw [← hw]; exact (show ¬ (3 : Nat) = 0 by decide))⟩, ⟨by rw [ht]; exact hP, va_K.moved hW.alike hK⟩, by rw [ht]; exact hPo1⟩, (hS.mono hAW).F ht⟩) (hS.mono hAW).2.2 dL_samples_14
  · have hPo1 := out_kept hPo hq hk
    refine lv_i2l (v := (r).toInt64) hx hb dL_samples_7 rfl ?_
    refine w_out hx hb hK hP hPo1 hI hq (hS.mono hAW) (fun _ h => h) dL_samples_8 (fun H locs hP hPo2 hS => ?_)
    refine lv_goto (tgt := 15) hx hb dL_samples_9 (by decide) ?_
    refine lv_iconst (v := 0) hx hb dL_samples_15 (by decide) ?_
    exact W.iret (v := 0) hx hb hr (fun t ht hW => ⟨⟨0, (u, vp_updL fo 0 (r.toInt64)), rfl, ⟨by unfold toJ; rw [← hw]; rfl, by unfold toJ; rw [← hw], fun _ => by unfold toJ; rw [← hw]; rfl⟩, ⟨by rw [ht]; exact hP, va_K.moved hW.alike hK⟩, by rw [ht]; exact hPo2⟩, hS.F ht⟩) hS.2.2 dL_samples_16
theorem hyL_offset : yL_offset.cls ≠ "java/lang/invoke/MethodHandle" ∧ yL_offset.cls ≠ "java/lang/invoke/VarHandle" ∧ (parseMethodDescriptor yL_offset.desc).map (fun d => d.parameters.length) = some 3 := by decide +kernel
set_option maxHeartbeats 4000000 in
set_option maxRecDepth 100000 in
theorem c_L_offset (l : Launch) (hfl : l.stackTraces = false) (dC : Nat → ClassId) (dI : Nat → Nat → Nat) (cA : Nat → ClassId) (ad : Nat → Nat) (hI : Inj 69 ad) (qo : Nat) (hq : ∀ k, k < 69 → qo ≠ ad k) (M : Mem) (fo : Nat → Int64) (p0 : Int32) : Met l yL_offset (.codeWith yL_offset cL_offset 4 (some .int) [(0, 8, 11, 37), (0, 8, 14, 19)] :: AG) ({ frames := 9, cells := 2, slots := 12, locals := 146 } : Room) (va_Pc [.ref (ad (0)), .int p0, .ref qo] (PW dC dI cA ad qo M fo)) (va_Qi (fun r z => WPn (fun n => if n = 3 then 1 else if n = 2 then 2 else 0) (f_X5_offset M p0) fo r z) (PWq dC dI cA ad qo) (adW ad qo)) 2 12 (adW ad qo) := by
  refine wMet (by decide) (Nat.le_of_ble_eq_true rfl) ?_
  intro p e s m below meth c ls hx hb hr hml hlocks hown hts hK hP hS hl hKX hPo hNC htab
  have hl : lv_has ls 4 [(0, .ref (ad (0))), (1, .int p0), (2, .ref qo)] := hl
  have hAW : ∀ q, adS 69 ad q → adW ad qo q := fun _ h => Or.inl h
  refine lv_aload_n hx hb dL_offset_0 rfl (lv_at hl 2 rfl) ?_
  refine lv_iconst (v := 0) hx hb dL_offset_1 (by decide) ?_
  refine lv_aload_n hx hb dL_offset_2 rfl (lv_at hl 0 rfl) ?_
  refine lv_iload_n hx hb dL_offset_3 rfl (lv_at hl 1 rfl) ?_
  refine kXl hx hb hml hown hts hK hP hS hKX (As := [.int p0]) (rest := [.int 0, .ref qo]) (c_X5_offset l hfl dC dI cA ad hI M p0) (mkV hts q_695 q_47 q_692 q_693 q_694 hyX5_offset rfl rfl ⟨(Nat.le_of_ble_eq_true rfl), (Nat.le_of_ble_eq_true rfl)⟩) (w_recv hK hP (k := 0) (by decide) lyC0 (q := (RX5, TX5, 10)) rfl) rfl hl.1 rfl (Nat.le_of_ble_eq_true rfl) dL_offset_4 ⟨(Nat.le_of_ble_eq_true rfl), (Nat.le_of_ble_eq_true rfl)⟩ (fun n u H locs ce q9 hn hw hP hS _ hk hce hcv hcl => ?_) (fun r u H locs hw hP hS _ hk => ?_)
  · have hPo1 := out_kept hPo hq hk
    have hc9 := f_X5_offset_c M p0
    rw [← hw] at hc9
    have hc9 : n = 3 ∨ n = 2 := by simpa [inC, hn] using hc9
    rcases hc9 with rfl | rfl
    · refine vx_catch (own := RL) (name := "java/lang/IndexOutOfBoundsException") (E := "java/lang/IndexOutOfBoundsException") hown [] ⟨0, 8, 11, 37⟩ [⟨0, 8, 14, 19⟩] htab (fun z hz => nomatch hz) rfl (by decide) (hts _ q_617) (va_Nw.use rfl (hKX.2.2 (.castable "java/lang/IndexOutOfBoundsException" "java/lang/IndexOutOfBoundsException") (List.mem_filter.mpr ⟨by decide +kernel, rfl⟩))) hce hcv hcl ?_
      refine lv_astore_n (lv' := [(3, .ref q9), (0, .ref (ad (0))), (1, .int p0), (2, .ref qo)]) hx hb dL_offset_11 rfl hl (by decide) rfl (fun ls hl => ?_)
      refine lv_iconst (v := 1) hx hb dL_offset_12 (by decide) ?_
      exact W.iret (v := 1) hx hb hr (fun t ht hW => ⟨⟨1, (u, fo), rfl, ⟨by rw [← hw]; rfl, by rw [← hw], fun h => absurd h (by rw [← hw]; exact (show ¬ (3 : Nat) = 0 by decide))⟩, ⟨by rw [ht]; exact hP, va_K.moved hW.alike hK⟩, by rw [ht]; exact hPo1⟩, (hS.mono hAW).F ht⟩) (hS.mono hAW).2.2 dL_offset_13
    · refine vx_catch (own := RL) (name := "java/lang/IllegalStateException") (E := "java/lang/IllegalStateException") hown [⟨0, 8, 11, 37⟩] ⟨0, 8, 14, 19⟩ [] htab (fun z hz => by rw [List.mem_singleton.mp hz]; exact Or.inr ⟨by decide, "java/lang/IndexOutOfBoundsException", hts _ q_617, hNC ("java/lang/IllegalStateException", "java/lang/IndexOutOfBoundsException") (by decide +kernel)⟩) rfl (by decide) (hts _ q_527) (va_Nw.use rfl (hKX.2.2 (.castable "java/lang/IllegalStateException" "java/lang/IllegalStateException") (List.mem_filter.mpr ⟨by decide +kernel, rfl⟩))) hce hcv hcl ?_
      refine lv_astore_n (lv' := [(3, .ref q9), (0, .ref (ad (0))), (1, .int p0), (2, .ref qo)]) hx hb dL_offset_14 rfl hl (by decide) rfl (fun ls hl => ?_)
      refine lv_iconst (v := 2) hx hb dL_offset_15 (by decide) ?_
      exact W.iret (v := 2) hx hb hr (fun t ht hW => ⟨⟨2, (u, fo), rfl, ⟨by rw [← hw]; rfl, by rw [← hw], fun h => absurd h (by rw [← hw]; exact (show ¬ (2 : Nat) = 0 by decide))⟩, ⟨by rw [ht]; exact hP, va_K.moved hW.alike hK⟩, by rw [ht]; exact hPo1⟩, (hS.mono hAW).F ht⟩) (hS.mono hAW).2.2 dL_offset_16
  · have hPo1 := out_kept hPo hq hk
    refine w_out hx hb hK hP hPo1 hI hq (hS.mono hAW) (fun _ h => h) dL_offset_7 (fun H locs hP hPo2 hS => ?_)
    refine lv_goto (tgt := 17) hx hb dL_offset_8 (by decide) ?_
    refine lv_iconst (v := 0) hx hb dL_offset_17 (by decide) ?_
    exact W.iret (v := 0) hx hb hr (fun t ht hW => ⟨⟨0, (u, vp_updL fo 0 (r)), rfl, ⟨by rw [← hw]; rfl, by rw [← hw], fun _ => by rw [← hw]; rfl⟩, ⟨by rw [ht]; exact hP, va_K.moved hW.alike hK⟩, by rw [ht]; exact hPo2⟩, hS.F ht⟩) hS.2.2 dL_offset_18
theorem hyL_delay : yL_delay.cls ≠ "java/lang/invoke/MethodHandle" ∧ yL_delay.cls ≠ "java/lang/invoke/VarHandle" ∧ (parseMethodDescriptor yL_delay.desc).map (fun d => d.parameters.length) = some 3 := by decide +kernel
set_option maxHeartbeats 4000000 in
set_option maxRecDepth 100000 in
theorem c_L_delay (l : Launch) (hfl : l.stackTraces = false) (dC : Nat → ClassId) (dI : Nat → Nat → Nat) (cA : Nat → ClassId) (ad : Nat → Nat) (hI : Inj 69 ad) (qo : Nat) (hq : ∀ k, k < 69 → qo ≠ ad k) (M : Mem) (fo : Nat → Int64) (p0 : Int32) : Met l yL_delay (.codeWith yL_delay cL_delay 4 (some .int) [(0, 8, 11, 37), (0, 8, 14, 19)] :: AG) ({ frames := 9, cells := 2, slots := 12, locals := 146 } : Room) (va_Pc [.ref (ad (0)), .int p0, .ref qo] (PW dC dI cA ad qo M fo)) (va_Qi (fun r z => WPn (fun n => if n = 3 then 1 else if n = 2 then 2 else 0) (f_X5_delay M p0) fo r z) (PWq dC dI cA ad qo) (adW ad qo)) 2 12 (adW ad qo) := by
  refine wMet (by decide) (Nat.le_of_ble_eq_true rfl) ?_
  intro p e s m below meth c ls hx hb hr hml hlocks hown hts hK hP hS hl hKX hPo hNC htab
  have hl : lv_has ls 4 [(0, .ref (ad (0))), (1, .int p0), (2, .ref qo)] := hl
  have hAW : ∀ q, adS 69 ad q → adW ad qo q := fun _ h => Or.inl h
  refine lv_aload_n hx hb dL_delay_0 rfl (lv_at hl 2 rfl) ?_
  refine lv_iconst (v := 0) hx hb dL_delay_1 (by decide) ?_
  refine lv_aload_n hx hb dL_delay_2 rfl (lv_at hl 0 rfl) ?_
  refine lv_iload_n hx hb dL_delay_3 rfl (lv_at hl 1 rfl) ?_
  refine kXl hx hb hml hown hts hK hP hS hKX (As := [.int p0]) (rest := [.int 0, .ref qo]) (c_X5_delay l hfl dC dI cA ad hI M p0) (mkV hts q_707 q_47 q_704 q_705 q_706 hyX5_delay rfl rfl ⟨(Nat.le_of_ble_eq_true rfl), (Nat.le_of_ble_eq_true rfl)⟩) (w_recv hK hP (k := 0) (by decide) lyC0 (q := (RX5, TX5, 10)) rfl) rfl hl.1 rfl (Nat.le_of_ble_eq_true rfl) dL_delay_4 ⟨(Nat.le_of_ble_eq_true rfl), (Nat.le_of_ble_eq_true rfl)⟩ (fun n u H locs ce q9 hn hw hP hS _ hk hce hcv hcl => ?_) (fun r u H locs hw hP hS _ hk => ?_)
  · have hPo1 := out_kept hPo hq hk
    have hc9 := f_X5_delay_c M p0
    rw [← hw] at hc9
    have hc9 : n = 3 ∨ n = 2 := by simpa [inC, hn] using hc9
    rcases hc9 with rfl | rfl
    · refine vx_catch (own := RL) (name := "java/lang/IndexOutOfBoundsException") (E := "java/lang/IndexOutOfBoundsException") hown [] ⟨0, 8, 11, 37⟩ [⟨0, 8, 14, 19⟩] htab (fun z hz => nomatch hz) rfl (by decide) (hts _ q_617) (va_Nw.use rfl (hKX.2.2 (.castable "java/lang/IndexOutOfBoundsException" "java/lang/IndexOutOfBoundsException") (List.mem_filter.mpr ⟨by decide +kernel, rfl⟩))) hce hcv hcl ?_
      refine lv_astore_n (lv' := [(3, .ref q9), (0, .ref (ad (0))), (1, .int p0), (2, .ref qo)]) hx hb dL_delay_11 rfl hl (by decide) rfl (fun ls hl => ?_)
      refine lv_iconst (v := 1) hx hb dL_delay_12 (by decide) ?_
      exact W.iret (v := 1) hx hb hr (fun t ht hW => ⟨⟨1, (u, fo), rfl, ⟨by rw [← hw]; rfl, by rw [← hw], fun h => absurd h (by rw [← hw]; exact (show ¬ (3 : Nat) = 0 by decide))⟩, ⟨by rw [ht]; exact hP, va_K.moved hW.alike hK⟩, by rw [ht]; exact hPo1⟩, (hS.mono hAW).F ht⟩) (hS.mono hAW).2.2 dL_delay_13
    · refine vx_catch (own := RL) (name := "java/lang/IllegalStateException") (E := "java/lang/IllegalStateException") hown [⟨0, 8, 11, 37⟩] ⟨0, 8, 14, 19⟩ [] htab (fun z hz => by rw [List.mem_singleton.mp hz]; exact Or.inr ⟨by decide, "java/lang/IndexOutOfBoundsException", hts _ q_617, hNC ("java/lang/IllegalStateException", "java/lang/IndexOutOfBoundsException") (by decide +kernel)⟩) rfl (by decide) (hts _ q_527) (va_Nw.use rfl (hKX.2.2 (.castable "java/lang/IllegalStateException" "java/lang/IllegalStateException") (List.mem_filter.mpr ⟨by decide +kernel, rfl⟩))) hce hcv hcl ?_
      refine lv_astore_n (lv' := [(3, .ref q9), (0, .ref (ad (0))), (1, .int p0), (2, .ref qo)]) hx hb dL_delay_14 rfl hl (by decide) rfl (fun ls hl => ?_)
      refine lv_iconst (v := 2) hx hb dL_delay_15 (by decide) ?_
      exact W.iret (v := 2) hx hb hr (fun t ht hW => ⟨⟨2, (u, fo), rfl, ⟨by rw [← hw]; rfl, by rw [← hw], fun h => absurd h (by rw [← hw]; exact (show ¬ (2 : Nat) = 0 by decide))⟩, ⟨by rw [ht]; exact hP, va_K.moved hW.alike hK⟩, by rw [ht]; exact hPo1⟩, (hS.mono hAW).F ht⟩) (hS.mono hAW).2.2 dL_delay_16
  · have hPo1 := out_kept hPo hq hk
    refine w_out hx hb hK hP hPo1 hI hq (hS.mono hAW) (fun _ h => h) dL_delay_7 (fun H locs hP hPo2 hS => ?_)
    refine lv_goto (tgt := 17) hx hb dL_delay_8 (by decide) ?_
    refine lv_iconst (v := 0) hx hb dL_delay_17 (by decide) ?_
    exact W.iret (v := 0) hx hb hr (fun t ht hW => ⟨⟨0, (u, vp_updL fo 0 (r)), rfl, ⟨by rw [← hw]; rfl, by rw [← hw], fun _ => by rw [← hw]; rfl⟩, ⟨by rw [ht]; exact hP, va_K.moved hW.alike hK⟩, by rw [ht]; exact hPo2⟩, hS.F ht⟩) hS.2.2 dL_delay_18
theorem hyL_jitter : yL_jitter.cls ≠ "java/lang/invoke/MethodHandle" ∧ yL_jitter.cls ≠ "java/lang/invoke/VarHandle" ∧ (parseMethodDescriptor yL_jitter.desc).map (fun d => d.parameters.length) = some 3 := by decide +kernel
set_option maxHeartbeats 4000000 in
set_option maxRecDepth 100000 in
theorem c_L_jitter (l : Launch) (hfl : l.stackTraces = false) (dC : Nat → ClassId) (dI : Nat → Nat → Nat) (cA : Nat → ClassId) (ad : Nat → Nat) (hI : Inj 69 ad) (qo : Nat) (hq : ∀ k, k < 69 → qo ≠ ad k) (M : Mem) (fo : Nat → Int64) (p0 : Int32) : Met l yL_jitter (.codeWith yL_jitter cL_jitter 4 (some .int) [(0, 8, 11, 37), (0, 8, 14, 19)] :: AG) ({ frames := 9, cells := 2, slots := 12, locals := 146 } : Room) (va_Pc [.ref (ad (0)), .int p0, .ref qo] (PW dC dI cA ad qo M fo)) (va_Qi (fun r z => WPn (fun n => if n = 3 then 1 else if n = 2 then 2 else 0) (f_X5_jitter M p0) fo r z) (PWq dC dI cA ad qo) (adW ad qo)) 2 12 (adW ad qo) := by
  refine wMet (by decide) (Nat.le_of_ble_eq_true rfl) ?_
  intro p e s m below meth c ls hx hb hr hml hlocks hown hts hK hP hS hl hKX hPo hNC htab
  have hl : lv_has ls 4 [(0, .ref (ad (0))), (1, .int p0), (2, .ref qo)] := hl
  have hAW : ∀ q, adS 69 ad q → adW ad qo q := fun _ h => Or.inl h
  refine lv_aload_n hx hb dL_jitter_0 rfl (lv_at hl 2 rfl) ?_
  refine lv_iconst (v := 0) hx hb dL_jitter_1 (by decide) ?_
  refine lv_aload_n hx hb dL_jitter_2 rfl (lv_at hl 0 rfl) ?_
  refine lv_iload_n hx hb dL_jitter_3 rfl (lv_at hl 1 rfl) ?_
  refine kXl hx hb hml hown hts hK hP hS hKX (As := [.int p0]) (rest := [.int 0, .ref qo]) (c_X5_jitter l hfl dC dI cA ad hI M p0) (mkV hts q_715 q_47 q_712 q_713 q_714 hyX5_jitter rfl rfl ⟨(Nat.le_of_ble_eq_true rfl), (Nat.le_of_ble_eq_true rfl)⟩) (w_recv hK hP (k := 0) (by decide) lyC0 (q := (RX5, TX5, 10)) rfl) rfl hl.1 rfl (Nat.le_of_ble_eq_true rfl) dL_jitter_4 ⟨(Nat.le_of_ble_eq_true rfl), (Nat.le_of_ble_eq_true rfl)⟩ (fun n u H locs ce q9 hn hw hP hS _ hk hce hcv hcl => ?_) (fun r u H locs hw hP hS _ hk => ?_)
  · have hPo1 := out_kept hPo hq hk
    have hc9 := f_X5_jitter_c M p0
    rw [← hw] at hc9
    have hc9 : n = 3 ∨ n = 2 := by simpa [inC, hn] using hc9
    rcases hc9 with rfl | rfl
    · refine vx_catch (own := RL) (name := "java/lang/IndexOutOfBoundsException") (E := "java/lang/IndexOutOfBoundsException") hown [] ⟨0, 8, 11, 37⟩ [⟨0, 8, 14, 19⟩] htab (fun z hz => nomatch hz) rfl (by decide) (hts _ q_617) (va_Nw.use rfl (hKX.2.2 (.castable "java/lang/IndexOutOfBoundsException" "java/lang/IndexOutOfBoundsException") (List.mem_filter.mpr ⟨by decide +kernel, rfl⟩))) hce hcv hcl ?_
      refine lv_astore_n (lv' := [(3, .ref q9), (0, .ref (ad (0))), (1, .int p0), (2, .ref qo)]) hx hb dL_jitter_11 rfl hl (by decide) rfl (fun ls hl => ?_)
      refine lv_iconst (v := 1) hx hb dL_jitter_12 (by decide) ?_
      exact W.iret (v := 1) hx hb hr (fun t ht hW => ⟨⟨1, (u, fo), rfl, ⟨by rw [← hw]; rfl, by rw [← hw], fun h => absurd h (by rw [← hw]; exact (show ¬ (3 : Nat) = 0 by decide))⟩, ⟨by rw [ht]; exact hP, va_K.moved hW.alike hK⟩, by rw [ht]; exact hPo1⟩, (hS.mono hAW).F ht⟩) (hS.mono hAW).2.2 dL_jitter_13
    · refine vx_catch (own := RL) (name := "java/lang/IllegalStateException") (E := "java/lang/IllegalStateException") hown [⟨0, 8, 11, 37⟩] ⟨0, 8, 14, 19⟩ [] htab (fun z hz => by rw [List.mem_singleton.mp hz]; exact Or.inr ⟨by decide, "java/lang/IndexOutOfBoundsException", hts _ q_617, hNC ("java/lang/IllegalStateException", "java/lang/IndexOutOfBoundsException") (by decide +kernel)⟩) rfl (by decide) (hts _ q_527) (va_Nw.use rfl (hKX.2.2 (.castable "java/lang/IllegalStateException" "java/lang/IllegalStateException") (List.mem_filter.mpr ⟨by decide +kernel, rfl⟩))) hce hcv hcl ?_
      refine lv_astore_n (lv' := [(3, .ref q9), (0, .ref (ad (0))), (1, .int p0), (2, .ref qo)]) hx hb dL_jitter_14 rfl hl (by decide) rfl (fun ls hl => ?_)
      refine lv_iconst (v := 2) hx hb dL_jitter_15 (by decide) ?_
      exact W.iret (v := 2) hx hb hr (fun t ht hW => ⟨⟨2, (u, fo), rfl, ⟨by rw [← hw]; rfl, by rw [← hw], fun h => absurd h (by rw [← hw]; exact (show ¬ (2 : Nat) = 0 by decide))⟩, ⟨by rw [ht]; exact hP, va_K.moved hW.alike hK⟩, by rw [ht]; exact hPo1⟩, (hS.mono hAW).F ht⟩) (hS.mono hAW).2.2 dL_jitter_16
  · have hPo1 := out_kept hPo hq hk
    refine w_out hx hb hK hP hPo1 hI hq (hS.mono hAW) (fun _ h => h) dL_jitter_7 (fun H locs hP hPo2 hS => ?_)
    refine lv_goto (tgt := 17) hx hb dL_jitter_8 (by decide) ?_
    refine lv_iconst (v := 0) hx hb dL_jitter_17 (by decide) ?_
    exact W.iret (v := 0) hx hb hr (fun t ht hW => ⟨⟨0, (u, vp_updL fo 0 (r)), rfl, ⟨by rw [← hw]; rfl, by rw [← hw], fun _ => by rw [← hw]; rfl⟩, ⟨by rw [ht]; exact hP, va_K.moved hW.alike hK⟩, by rw [ht]; exact hPo2⟩, hS.F ht⟩) hS.2.2 dL_jitter_18
theorem hyL_distance : yL_distance.cls ≠ "java/lang/invoke/MethodHandle" ∧ yL_distance.cls ≠ "java/lang/invoke/VarHandle" ∧ (parseMethodDescriptor yL_distance.desc).map (fun d => d.parameters.length) = some 3 := by decide +kernel
set_option maxHeartbeats 4000000 in
set_option maxRecDepth 100000 in
theorem c_L_distance (l : Launch) (hfl : l.stackTraces = false) (dC : Nat → ClassId) (dI : Nat → Nat → Nat) (cA : Nat → ClassId) (ad : Nat → Nat) (hI : Inj 69 ad) (qo : Nat) (hq : ∀ k, k < 69 → qo ≠ ad k) (M : Mem) (fo : Nat → Int64) (p0 : Int32) : Met l yL_distance (.codeWith yL_distance cL_distance 4 (some .int) [(0, 8, 11, 37), (0, 8, 14, 19)] :: AG) ({ frames := 9, cells := 2, slots := 12, locals := 146 } : Room) (va_Pc [.ref (ad (0)), .int p0, .ref qo] (PW dC dI cA ad qo M fo)) (va_Qi (fun r z => WPn (fun n => if n = 3 then 1 else if n = 2 then 2 else 0) (f_X5_distance M p0) fo r z) (PWq dC dI cA ad qo) (adW ad qo)) 2 12 (adW ad qo) := by
  refine wMet (by decide) (Nat.le_of_ble_eq_true rfl) ?_
  intro p e s m below meth c ls hx hb hr hml hlocks hown hts hK hP hS hl hKX hPo hNC htab
  have hl : lv_has ls 4 [(0, .ref (ad (0))), (1, .int p0), (2, .ref qo)] := hl
  have hAW : ∀ q, adS 69 ad q → adW ad qo q := fun _ h => Or.inl h
  refine lv_aload_n hx hb dL_distance_0 rfl (lv_at hl 2 rfl) ?_
  refine lv_iconst (v := 0) hx hb dL_distance_1 (by decide) ?_
  refine lv_aload_n hx hb dL_distance_2 rfl (lv_at hl 0 rfl) ?_
  refine lv_iload_n hx hb dL_distance_3 rfl (lv_at hl 1 rfl) ?_
  refine kXl hx hb hml hown hts hK hP hS hKX (As := [.int p0]) (rest := [.int 0, .ref qo]) (c_X5_distance l hfl dC dI cA ad hI M p0) (mkV hts q_723 q_47 q_720 q_721 q_722 hyX5_distance rfl rfl ⟨(Nat.le_of_ble_eq_true rfl), (Nat.le_of_ble_eq_true rfl)⟩) (w_recv hK hP (k := 0) (by decide) lyC0 (q := (RX5, TX5, 10)) rfl) rfl hl.1 rfl (Nat.le_of_ble_eq_true rfl) dL_distance_4 ⟨(Nat.le_of_ble_eq_true rfl), (Nat.le_of_ble_eq_true rfl)⟩ (fun n u H locs ce q9 hn hw hP hS _ hk hce hcv hcl => ?_) (fun r u H locs hw hP hS _ hk => ?_)
  · have hPo1 := out_kept hPo hq hk
    have hc9 := f_X5_distance_c M p0
    rw [← hw] at hc9
    have hc9 : n = 3 ∨ n = 2 := by simpa [inC, hn] using hc9
    rcases hc9 with rfl | rfl
    · refine vx_catch (own := RL) (name := "java/lang/IndexOutOfBoundsException") (E := "java/lang/IndexOutOfBoundsException") hown [] ⟨0, 8, 11, 37⟩ [⟨0, 8, 14, 19⟩] htab (fun z hz => nomatch hz) rfl (by decide) (hts _ q_617) (va_Nw.use rfl (hKX.2.2 (.castable "java/lang/IndexOutOfBoundsException" "java/lang/IndexOutOfBoundsException") (List.mem_filter.mpr ⟨by decide +kernel, rfl⟩))) hce hcv hcl ?_
      refine lv_astore_n (lv' := [(3, .ref q9), (0, .ref (ad (0))), (1, .int p0), (2, .ref qo)]) hx hb dL_distance_11 rfl hl (by decide) rfl (fun ls hl => ?_)
      refine lv_iconst (v := 1) hx hb dL_distance_12 (by decide) ?_
      exact W.iret (v := 1) hx hb hr (fun t ht hW => ⟨⟨1, (u, fo), rfl, ⟨by rw [← hw]; rfl, by rw [← hw], fun h => absurd h (by rw [← hw]; exact (show ¬ (3 : Nat) = 0 by decide))⟩, ⟨by rw [ht]; exact hP, va_K.moved hW.alike hK⟩, by rw [ht]; exact hPo1⟩, (hS.mono hAW).F ht⟩) (hS.mono hAW).2.2 dL_distance_13
    · refine vx_catch (own := RL) (name := "java/lang/IllegalStateException") (E := "java/lang/IllegalStateException") hown [⟨0, 8, 11, 37⟩] ⟨0, 8, 14, 19⟩ [] htab (fun z hz => by rw [List.mem_singleton.mp hz]; exact Or.inr ⟨by decide, "java/lang/IndexOutOfBoundsException", hts _ q_617, hNC ("java/lang/IllegalStateException", "java/lang/IndexOutOfBoundsException") (by decide +kernel)⟩) rfl (by decide) (hts _ q_527) (va_Nw.use rfl (hKX.2.2 (.castable "java/lang/IllegalStateException" "java/lang/IllegalStateException") (List.mem_filter.mpr ⟨by decide +kernel, rfl⟩))) hce hcv hcl ?_
      refine lv_astore_n (lv' := [(3, .ref q9), (0, .ref (ad (0))), (1, .int p0), (2, .ref qo)]) hx hb dL_distance_14 rfl hl (by decide) rfl (fun ls hl => ?_)
      refine lv_iconst (v := 2) hx hb dL_distance_15 (by decide) ?_
      exact W.iret (v := 2) hx hb hr (fun t ht hW => ⟨⟨2, (u, fo), rfl, ⟨by rw [← hw]; rfl, by rw [← hw], fun h => absurd h (by rw [← hw]; exact (show ¬ (2 : Nat) = 0 by decide))⟩, ⟨by rw [ht]; exact hP, va_K.moved hW.alike hK⟩, by rw [ht]; exact hPo1⟩, (hS.mono hAW).F ht⟩) (hS.mono hAW).2.2 dL_distance_16
  · have hPo1 := out_kept hPo hq hk
    refine w_out hx hb hK hP hPo1 hI hq (hS.mono hAW) (fun _ h => h) dL_distance_7 (fun H locs hP hPo2 hS => ?_)
    refine lv_goto (tgt := 17) hx hb dL_distance_8 (by decide) ?_
    refine lv_iconst (v := 0) hx hb dL_distance_17 (by decide) ?_
    exact W.iret (v := 0) hx hb hr (fun t ht hW => ⟨⟨0, (u, vp_updL fo 0 (r)), rfl, ⟨by rw [← hw]; rfl, by rw [← hw], fun _ => by rw [← hw]; rfl⟩, ⟨by rw [ht]; exact hP, va_K.moved hW.alike hK⟩, by rw [ht]; exact hPo2⟩, hS.F ht⟩) hS.2.2 dL_distance_18
theorem hyL_low : yL_low.cls ≠ "java/lang/invoke/MethodHandle" ∧ yL_low.cls ≠ "java/lang/invoke/VarHandle" ∧ (parseMethodDescriptor yL_low.desc).map (fun d => d.parameters.length) = some 2 := by decide +kernel
set_option maxHeartbeats 4000000 in
set_option maxRecDepth 100000 in
theorem c_L_low (l : Launch) (hfl : l.stackTraces = false) (dC : Nat → ClassId) (dI : Nat → Nat → Nat) (cA : Nat → ClassId) (ad : Nat → Nat) (hI : Inj 69 ad) (qo : Nat) (hq : ∀ k, k < 69 → qo ≠ ad k) (M : Mem) (fo : Nat → Int64)  : Met l yL_low (.codeWith yL_low cL_low 3 (some .int) [(0, 7, 10, 19)] :: AG) ({ frames := 8, cells := 1, slots := 6, locals := 160 } : Room) (va_Pc [.ref (ad (0)), .ref qo] (PW dC dI cA ad qo M fo)) (va_Qi (fun r z => WPn (fun n => if n = 2 then 1 else 0) (f_X5_low M ) fo r z) (PWq dC dI cA ad qo) (adW ad qo)) 1 6 (adW ad qo) := by
  refine wMet (by decide) (Nat.le_of_ble_eq_true rfl) ?_
  intro p e s m below meth c ls hx hb hr hml hlocks hown hts hK hP hS hl hKX hPo hNC htab
  have hl : lv_has ls 3 [(0, .ref (ad (0))), (1, .ref qo)] := hl
  have hAW : ∀ q, adS 69 ad q → adW ad qo q := fun _ h => Or.inl h
  refine lv_aload_n hx hb dL_low_0 rfl (lv_at hl 1 rfl) ?_
  refine lv_iconst (v := 0) hx hb dL_low_1 (by decide) ?_
  refine lv_aload_n hx hb dL_low_2 rfl (lv_at hl 0 rfl) ?_
  refine kXl hx hb hml hown hts hK hP hS hKX (As := []) (rest := [.int 0, .ref qo]) (c_X5_low l hfl dC dI cA ad hI M ) (mkV hts q_731 q_47 q_728 q_729 q_730 hyX5_low rfl rfl ⟨(Nat.le_of_ble_eq_true rfl), (Nat.le_of_ble_eq_true rfl)⟩) (w_recv hK hP (k := 0) (by decide) lyC0 (q := (RX5, TX5, 10)) rfl) rfl hl.1 rfl (Nat.le_of_ble_eq_true rfl) dL_low_3 ⟨(Nat.le_of_ble_eq_true rfl), (Nat.le_of_ble_eq_true rfl)⟩ (fun n u H locs ce q9 hn hw hP hS _ hk hce hcv hcl => ?_) (fun r u H locs hw hP hS _ hk => ?_)
  · have hPo1 := out_kept hPo hq hk
    have hc9 := f_X5_low_c M 
    rw [← hw] at hc9
    have hc9 : n = 2 := by simpa [inC, hn] using hc9
    subst hc9
    refine vx_catch (own := RL) (name := "java/lang/IllegalStateException") (E := "java/lang/IllegalStateException") hown [] ⟨0, 7, 10, 19⟩ [] htab (fun z hz => nomatch hz) rfl (by decide) (hts _ q_527) (va_Nw.use rfl (hKX.2.2 (.castable "java/lang/IllegalStateException" "java/lang/IllegalStateException") (List.mem_filter.mpr ⟨by decide +kernel, rfl⟩))) hce hcv hcl ?_
    refine lv_astore_n (lv' := [(2, .ref q9), (0, .ref (ad (0))), (1, .ref qo)]) hx hb dL_low_10 rfl hl (by decide) rfl (fun ls hl => ?_)
    refine lv_iconst (v := 1) hx hb dL_low_11 (by decide) ?_
    exact W.iret (v := 1) hx hb hr (fun t ht hW => ⟨⟨1, (u, fo), rfl, ⟨by rw [← hw]; rfl, by rw [← hw], fun h => absurd h (by rw [← hw]; exact (show ¬ (2 : Nat) = 0 by decide))⟩, ⟨by rw [ht]; exact hP, va_K.moved hW.alike hK⟩, by rw [ht]; exact hPo1⟩, (hS.mono hAW).F ht⟩) (hS.mono hAW).2.2 dL_low_12
  · have hPo1 := out_kept hPo hq hk
    refine w_out hx hb hK hP hPo1 hI hq (hS.mono hAW) (fun _ h => h) dL_low_6 (fun H locs hP hPo2 hS => ?_)
    refine lv_goto (tgt := 13) hx hb dL_low_7 (by decide) ?_
    refine lv_iconst (v := 0) hx hb dL_low_13 (by decide) ?_
    exact W.iret (v := 0) hx hb hr (fun t ht hW => ⟨⟨0, (u, vp_updL fo 0 (r)), rfl, ⟨by rw [← hw]; rfl, by rw [← hw], fun _ => by rw [← hw]; rfl⟩, ⟨by rw [ht]; exact hP, va_K.moved hW.alike hK⟩, by rw [ht]; exact hPo2⟩, hS.F ht⟩) hS.2.2 dL_low_14
theorem hyL_high : yL_high.cls ≠ "java/lang/invoke/MethodHandle" ∧ yL_high.cls ≠ "java/lang/invoke/VarHandle" ∧ (parseMethodDescriptor yL_high.desc).map (fun d => d.parameters.length) = some 2 := by decide +kernel
set_option maxHeartbeats 4000000 in
set_option maxRecDepth 100000 in
theorem c_L_high (l : Launch) (hfl : l.stackTraces = false) (dC : Nat → ClassId) (dI : Nat → Nat → Nat) (cA : Nat → ClassId) (ad : Nat → Nat) (hI : Inj 69 ad) (qo : Nat) (hq : ∀ k, k < 69 → qo ≠ ad k) (M : Mem) (fo : Nat → Int64)  : Met l yL_high (.codeWith yL_high cL_high 3 (some .int) [(0, 7, 10, 19)] :: AG) ({ frames := 8, cells := 1, slots := 6, locals := 160 } : Room) (va_Pc [.ref (ad (0)), .ref qo] (PW dC dI cA ad qo M fo)) (va_Qi (fun r z => WPn (fun n => if n = 2 then 1 else 0) (f_X5_high M ) fo r z) (PWq dC dI cA ad qo) (adW ad qo)) 1 6 (adW ad qo) := by
  refine wMet (by decide) (Nat.le_of_ble_eq_true rfl) ?_
  intro p e s m below meth c ls hx hb hr hml hlocks hown hts hK hP hS hl hKX hPo hNC htab
  have hl : lv_has ls 3 [(0, .ref (ad (0))), (1, .ref qo)] := hl
  have hAW : ∀ q, adS 69 ad q → adW ad qo q := fun _ h => Or.inl h
  refine lv_aload_n hx hb dL_high_0 rfl (lv_at hl 1 rfl) ?_
  refine lv_iconst (v := 0) hx hb dL_high_1 (by decide) ?_
  refine lv_aload_n hx hb dL_high_2 rfl (lv_at hl 0 rfl) ?_
  refine kXl hx hb hml hown hts hK hP hS hKX (As := []) (rest := [.int 0, .ref qo]) (c_X5_high l hfl dC dI cA ad hI M ) (mkV hts q_750 q_47 q_747 q_748 q_749 hyX5_high rfl rfl ⟨(Nat.le_of_ble_eq_true rfl), (Nat.le_of_ble_eq_true rfl)⟩) (w_recv hK hP (k := 0) (by decide) lyC0 (q := (RX5, TX5, 10)) rfl) rfl hl.1 rfl (Nat.le_of_ble_eq_true rfl) dL_high_3 ⟨(Nat.le_of_ble_eq_true rfl), (Nat.le_of_ble_eq_true rfl)⟩ (fun n u H locs ce q9 hn hw hP hS _ hk hce hcv hcl => ?_) (fun r u H locs hw hP hS _ hk => ?_)
  · have hPo1 := out_kept hPo hq hk
    have hc9 := f_X5_high_c M 
    rw [← hw] at hc9
    have hc9 : n = 2 := by simpa [inC, hn] using hc9
    subst hc9
    refine vx_catch (own := RL) (name := "java/lang/IllegalStateException") (E := "java/lang/IllegalStateException") hown [] ⟨0, 7, 10, 19⟩ [] htab (fun z hz => nomatch hz) rfl (by decide) (hts _ q_527) (va_Nw.use rfl (hKX.2.2 (.castable "java/lang/IllegalStateException" "java/lang/IllegalStateException") (List.mem_filter.mpr ⟨by decide +kernel, rfl⟩))) hce hcv hcl ?_
    refine lv_astore_n (lv' := [(2, .ref q9), (0, .ref (ad (0))), (1, .ref qo)]) hx hb dL_high_10 rfl hl (by decide) rfl (fun ls hl => ?_)
    refine lv_iconst (v := 1) hx hb dL_high_11 (by decide) ?_
    exact W.iret (v := 1) hx hb hr (fun t ht hW => ⟨⟨1, (u, fo), rfl, ⟨by rw [← hw]; rfl, by rw [← hw], fun h => absurd h (by rw [← hw]; exact (show ¬ (2 : Nat) = 0 by decide))⟩, ⟨by rw [ht]; exact hP, va_K.moved hW.alike hK⟩, by rw [ht]; exact hPo1⟩, (hS.mono hAW).F ht⟩) (hS.mono hAW).2.2 dL_high_12
  · have hPo1 := out_kept hPo hq hk
    refine w_out hx hb hK hP hPo1 hI hq (hS.mono hAW) (fun _ h => h) dL_high_6 (fun H locs hP hPo2 hS => ?_)
    refine lv_goto (tgt := 13) hx hb dL_high_7 (by decide) ?_
    refine lv_iconst (v := 0) hx hb dL_high_13 (by decide) ?_
    exact W.iret (v := 0) hx hb hr (fun t ht hW => ⟨⟨0, (u, vp_updL fo 0 (r)), rfl, ⟨by rw [← hw]; rfl, by rw [← hw], fun _ => by rw [← hw]; rfl⟩, ⟨by rw [ht]; exact hP, va_K.moved hW.alike hK⟩, by rw [ht]; exact hPo2⟩, hS.F ht⟩) hS.2.2 dL_high_14
theorem hyL_combinedOffset : yL_combinedOffset.cls ≠ "java/lang/invoke/MethodHandle" ∧ yL_combinedOffset.cls ≠ "java/lang/invoke/VarHandle" ∧ (parseMethodDescriptor yL_combinedOffset.desc).map (fun d => d.parameters.length) = some 2 := by decide +kernel
set_option maxHeartbeats 4000000 in
set_option maxRecDepth 100000 in
theorem c_L_combinedOffset (l : Launch) (hfl : l.stackTraces = false) (dC : Nat → ClassId) (dI : Nat → Nat → Nat) (cA : Nat → ClassId) (ad : Nat → Nat) (hI : Inj 69 ad) (qo : Nat) (hq : ∀ k, k < 69 → qo ≠ ad k) (M : Mem) (fo : Nat → Int64)  : Met l yL_combinedOffset (.codeWith yL_combinedOffset cL_combinedOffset 3 (some .int) [(0, 7, 10, 19)] :: AG) ({ frames := 8, cells := 1, slots := 6, locals := 160 } : Room) (va_Pc [.ref (ad (0)), .ref qo] (PW dC dI cA ad qo M fo)) (va_Qi (fun r z => WPn (fun n => if n = 2 then 1 else 0) (f_X5_combinedOffset M ) fo r z) (PWq dC dI cA ad qo) (adW ad qo)) 1 6 (adW ad qo) := by
  refine wMet (by decide) (Nat.le_of_ble_eq_true rfl) ?_
  intro p e s m below meth c ls hx hb hr hml hlocks hown hts hK hP hS hl hKX hPo hNC htab
  have hl : lv_has ls 3 [(0, .ref (ad (0))), (1, .ref qo)] := hl
  have hAW : ∀ q, adS 69 ad q → adW ad qo q := fun _ h => Or.inl h
  refine lv_aload_n hx hb dL_combinedOffset_0 rfl (lv_at hl 1 rfl) ?_
  refine lv_iconst (v := 0) hx hb dL_combinedOffset_1 (by decide) ?_
  refine lv_aload_n hx hb dL_combinedOffset_2 rfl (lv_at hl 0 rfl) ?_
  refine kXl hx hb hml hown hts hK hP hS hKX (As := []) (rest := [.int 0, .ref qo]) (c_X5_combinedOffset l hfl dC dI cA ad hI M ) (mkV hts q_761 q_47 q_758 q_759 q_760 hyX5_combinedOffset rfl rfl ⟨(Nat.le_of_ble_eq_true rfl), (Nat.le_of_ble_eq_true rfl)⟩) (w_recv hK hP (k := 0) (by decide) lyC0 (q := (RX5, TX5, 10)) rfl) rfl hl.1 rfl (Nat.le_of_ble_eq_true rfl) dL_combinedOffset_3 ⟨(Nat.le_of_ble_eq_true rfl), (Nat.le_of_ble_eq_true rfl)⟩ (fun n u H locs ce q9 hn hw hP hS _ hk hce hcv hcl => ?_) (fun r u H locs hw hP hS _ hk => ?_)
  · have hPo1 := out_kept hPo hq hk
    have hc9 := f_X5_combinedOffset_c M 
    rw [← hw] at hc9
    have hc9 : n = 2 := by simpa [inC, hn] using hc9
    subst hc9
    refine vx_catch (own := RL) (name := "java/lang/IllegalStateException") (E := "java/lang/IllegalStateException") hown [] ⟨0, 7, 10, 19⟩ [] htab (fun z hz => nomatch hz) rfl (by decide) (hts _ q_527) (va_Nw.use rfl (hKX.2.2 (.castable "java/lang/IllegalStateException" "java/lang/IllegalStateException") (List.mem_filter.mpr ⟨by decide +kernel, rfl⟩))) hce hcv hcl ?_
    refine lv_astore_n (lv' := [(2, .ref q9), (0, .ref (ad (0))), (1, .ref qo)]) hx hb dL_combinedOffset_10 rfl hl (by decide) rfl (fun ls hl => ?_)
    refine lv_iconst (v := 1) hx hb dL_combinedOffset_11 (by decide) ?_
    exact W.iret (v := 1) hx hb hr (fun t ht hW => ⟨⟨1, (u, fo), rfl, ⟨by rw [← hw]; rfl, by rw [← hw], fun h => absurd h (by rw [← hw]; exact (show ¬ (2 : Nat) = 0 by decide))⟩, ⟨by rw [ht]; exact hP, va_K.moved hW.alike hK⟩, by rw [ht]; exact hPo1⟩, (hS.mono hAW).F ht⟩) (hS.mono hAW).2.2 dL_combinedOffset_12
  · have hPo1 := out_kept hPo hq hk
    refine w_out hx hb hK hP hPo1 hI hq (hS.mono hAW) (fun _ h => h) dL_combinedOffset_6 (fun H locs hP hPo2 hS => ?_)
    refine lv_goto (tgt := 13) hx hb dL_combinedOffset_7 (by decide) ?_
    refine lv_iconst (v := 0) hx hb dL_combinedOffset_13 (by decide) ?_
    exact W.iret (v := 0) hx hb hr (fun t ht hW => ⟨⟨0, (u, vp_updL fo 0 (r)), rfl, ⟨by rw [← hw]; rfl, by rw [← hw], fun _ => by rw [← hw]; rfl⟩, ⟨by rw [ht]; exact hP, va_K.moved hW.alike hK⟩, by rw [ht]; exact hPo2⟩, hS.F ht⟩) hS.2.2 dL_combinedOffset_14
theorem hyL_synchronize : yL_synchronize.cls ≠ "java/lang/invoke/MethodHandle" ∧ yL_synchronize.cls ≠ "java/lang/invoke/VarHandle" ∧ (parseMethodDescriptor yL_synchronize.desc).map (fun d => d.parameters.length) = some 2 := by decide +kernel
set_option maxHeartbeats 4000000 in
set_option maxRecDepth 100000 in
theorem c_L_synchronize (l : Launch) (hfl : l.stackTraces = false) (dC : Nat → ClassId) (dI : Nat → Nat → Nat) (cA : Nat → ClassId) (ad : Nat → Nat) (hI : Inj 69 ad) (qo : Nat) (hq : ∀ k, k < 69 → qo ≠ ad k) (M : Mem) (fo : Nat → Int64)  : Met l yL_synchronize (.codeWith yL_synchronize cL_synchronize 3 (some .int) [(0, 8, 11, 19)] :: AG) ({ frames := 7, cells := 1, slots := 6, locals := 164 } : Room) (va_Pc [.ref (ad (0)), .ref qo] (PW dC dI cA ad qo M fo)) (va_Qi (fun r z => WPn (fun n => if n = 2 then 1 else 0) (toJ (f_X5_synchronize M )) fo r z) (PWq dC dI cA ad qo) (adW ad qo)) 1 6 (adW ad qo) := by
  refine wMet (by decide) (Nat.le_of_ble_eq_true rfl) ?_
  intro p e s m below meth c ls hx hb hr hml hlocks hown hts hK hP hS hl hKX hPo hNC htab
  have hl : lv_has ls 3 [(0, .ref (ad (0))), (1, .ref qo)] := hl
  have hAW : ∀ q, adS 69 ad q → adW ad qo q := fun _ h => Or.inl h
  refine lv_aload_n hx hb dL_synchronize_0 rfl (lv_at hl 1 rfl) ?_
  refine lv_iconst (v := 0) hx hb dL_synchronize_1 (by decide) ?_
  refine lv_aload_n hx hb dL_synchronize_2 rfl (lv_at hl 0 rfl) ?_
  refine kXi hx hb hml hown hts hK hP hS hKX (As := []) (rest := [.int 0, .ref qo]) (c_X5_synchronize l hfl dC dI cA ad hI M ) (mkV hts q_779 q_47 q_776 q_777 q_778 hyX5_synchronize rfl rfl ⟨(Nat.le_of_ble_eq_true rfl), (Nat.le_of_ble_eq_true rfl)⟩) (w_recv hK hP (k := 0) (by decide) lyC0 (q := (RX5, TX5, 10)) rfl) rfl hl.1 rfl (Nat.le_of_ble_eq_true rfl) dL_synchronize_3 ⟨(Nat.le_of_ble_eq_true rfl), (Nat.le_of_ble_eq_true rfl)⟩ (fun n u H locs ce q9 hn hw hP hS _ hk hce hcv hcl => ?_) (fun r u H locs hw hP hS _ hk => ?_)
  · have hPo1 := out_kept hPo hq hk
    have hc9 := f_X5_synchronize_c M 
    rw [← hw] at hc9
    have hc9 : n = 2 := by simpa [inC, hn] using hc9
    subst hc9
    refine vx_catch (own := RL) (name := "java/lang/IllegalStateException") (E := "java/lang/IllegalStateException") hown [] ⟨0, 8, 11, 19⟩ [] htab (fun z hz => nomatch hz) rfl (by decide) (hts _ q_527) (va_Nw.use rfl (hKX.2.2 (.castable "java/lang/IllegalStateException" "java/lang/IllegalStateException") (List.mem_filter.mpr ⟨by decide +kernel, rfl⟩))) hce hcv hcl ?_
    refine lv_astore_n (lv' := [(2, .ref q9), (0, .ref (ad (0))), (1, .ref qo)]) hx hb dL_synchronize_11 rfl hl (by decide) rfl (fun ls hl => ?_)
    refine lv_iconst (v := 1) hx hb dL_synchronize_12 (by decide) ?_
    exact W.iret (v := 1) hx hb hr (fun t ht hW => ⟨⟨1, (u, fo), rfl, ⟨by unfold toJ; rw [← hw]; rfl, by unfold toJ; rw [← hw], fun h => absurd h (by unfold toJ; rw [← hw]; exact (show ¬ (2 : Nat) = 0 by decide))⟩, ⟨by rw [ht]; exact hP, va_K.moved hW.alike hK⟩, by rw [ht]; exact hPo1⟩, (hS.mono hAW).F ht⟩) (hS.mono hAW).2.2 dL_synchronize_13
  · have hPo1 := out_kept hPo hq hk
    refine lv_i2l (v := (r).toInt64) hx hb dL_synchronize_6 rfl ?_
    refine w_out hx hb hK hP hPo1 hI hq (hS.mono hAW) (fun _ h => h) dL_synchronize_7 (fun H locs hP hPo2 hS => ?_)
    refine lv_goto (tgt := 14) hx hb dL_synchronize_8 (by decide) ?_
    refine lv_iconst (v := 0) hx hb dL_synchronize_14 (by decide) ?_
    exact W.iret (v := 0) hx hb hr (fun t ht hW => ⟨⟨0, (u, vp_updL fo 0 (r.toInt64)), rfl, ⟨by unfold toJ; rw [← hw]; rfl, by unfold toJ; rw [← hw], fun _ => by unfold toJ; rw [← hw]; rfl⟩, ⟨by rw [ht]; exact hP, va_K.moved hW.alike hK⟩, by rw [ht]; exact hPo2⟩, hS.F ht⟩) hS.2.2 dL_synchronize_15
theorem hyL_restart : yL_restart.cls ≠ "java/lang/invoke/MethodHandle" ∧ yL_restart.cls ≠ "java/lang/invoke/VarHandle" ∧ (parseMethodDescriptor yL_restart.desc).map (fun d => d.parameters.length) = some 2 := by decide +kernel
set_option maxHeartbeats 4000000 in
set_option maxRecDepth 100000 in
theorem c_L_restart (l : Launch) (hfl : l.stackTraces = false) (dC : Nat → ClassId) (dI : Nat → Nat → Nat) (cA : Nat → ClassId) (ad : Nat → Nat) (hI : Inj 69 ad) (qo : Nat) (hq : ∀ k, k < 69 → qo ≠ ad k) (M : Mem) (fo : Nat → Int64) (p0 : Int32) : Met l yL_restart (.codeWith yL_restart cL_restart 3 (some .int) [(0, 5, 8, 13)] :: AG) ({ frames := 7, cells := 1, slots := 6, locals := 102 } : Room) (va_Pc [.ref (ad (0)), .int p0] (PW dC dI cA ad qo M fo)) (va_Qi (fun r z => WPv (fun n => if n = 1 then 1 else 0) (f_X5_restart M p0) fo r z) (PWq dC dI cA ad qo) (adW ad qo)) 1 6 (adW ad qo) := by
  refine wMet (by decide) (Nat.le_of_ble_eq_true rfl) ?_
  intro p e s m below meth c ls hx hb hr hml hlocks hown hts hK hP hS hl hKX hPo hNC htab
  have hl : lv_has ls 3 [(0, .ref (ad (0))), (1, .int p0)] := hl
  have hAW : ∀ q, adS 69 ad q → adW ad qo q := fun _ h => Or.inl h
  refine lv_aload_n hx hb dL_restart_0 rfl (lv_at hl 0 rfl) ?_
  refine lv_iload_n hx hb dL_restart_1 rfl (lv_at hl 1 rfl) ?_
  refine kXv hx hb hml hown hts hK hP hS hKX (As := [.int p0]) (rest := []) (c_X5_restart l hfl dC dI cA ad hI M p0) (mkV hts q_455 q_47 q_452 q_453 q_454 hyX5_restart rfl rfl ⟨(Nat.le_of_ble_eq_true rfl), (Nat.le_of_ble_eq_true rfl)⟩) (w_recv hK hP (k := 0) (by decide) lyC0 (q := (RX5, TX5, 10)) rfl) rfl hl.1 rfl (Nat.le_of_ble_eq_true rfl) dL_restart_2 ⟨(Nat.le_of_ble_eq_true rfl), (Nat.le_of_ble_eq_true rfl)⟩ (fun n u H locs ce q9 hn hw hP hS _ hk hce hcv hcl => ?_) (fun u H locs hw hP hS _ hk => ?_)
  · have hPo1 := out_kept hPo hq hk
    have hc9 := f_X5_restart_c M p0
    rw [← hw] at hc9
    have hc9 : n = 1 := by simpa [inC, hn] using hc9
    subst hc9
    refine vx_catch (own := RL) (name := "java/lang/IllegalArgumentException") (E := "java/lang/IllegalArgumentException") hown [] ⟨0, 5, 8, 13⟩ [] htab (fun z hz => nomatch hz) rfl (by decide) (hts _ q_451) (va_Nw.use rfl (hKX.2.2 (.castable "java/lang/IllegalArgumentException" "java/lang/IllegalArgumentException") (List.mem_filter.mpr ⟨by decide +kernel, rfl⟩))) hce hcv hcl ?_
    refine lv_astore_n (lv' := [(2, .ref q9), (0, .ref (ad (0))), (1, .int p0)]) hx hb dL_restart_8 rfl hl (by decide) rfl (fun ls hl => ?_)
    refine lv_iconst (v := 1) hx hb dL_restart_9 (by decide) ?_
    exact W.iret (v := 1) hx hb hr (fun t ht hW => ⟨⟨1, (u, fo), rfl, ⟨by rw [← hw]; rfl, by rw [← hw], rfl⟩, ⟨by rw [ht]; exact hP, va_K.moved hW.alike hK⟩, by rw [ht]; exact hPo1⟩, (hS.mono hAW).F ht⟩) (hS.mono hAW).2.2 dL_restart_10
  · have hPo1 := out_kept hPo hq hk
    refine lv_goto (tgt := 11) hx hb dL_restart_5 (by decide) ?_
    refine lv_iconst (v := 0) hx hb dL_restart_11 (by decide) ?_
    exact W.iret (v := 0) hx hb hr (fun t ht hW => ⟨⟨0, (u, fo), rfl, ⟨by rw [← hw]; rfl, by rw [← hw], rfl⟩, ⟨by rw [ht]; exact hP, va_K.moved hW.alike hK⟩, by rw [ht]; exact hPo1⟩, (hS.mono hAW).F ht⟩) (hS.mono hAW).2.2 dL_restart_12
