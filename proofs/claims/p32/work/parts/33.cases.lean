theorem WPn_int {mp : Nat → Int32} {F : Nat × Int32 × Mem} {fo : Nat → Int64} {r : Int32} {z : Mem × (Nat → Int64)} (h : WPn mp (toJ F) fo r z) : r = (if F.1 = 0 then 0 else mp F.1) ∧ z.1 = F.2.2 ∧ (F.1 = 0 → z.2 0 = F.2.1.toInt64) := h
theorem cmpN_int {mp : Nat → Int32} {F : Nat × Int32 × Mem} {G : Int32 × Mem} (h : cmpN mp (toJ F) (toM G)) : f_X6_thrown G.2 = (if F.1 = 0 then 0 else mp F.1) ∧ (F.1 = 0 → F.2.1.toInt64 = G.1.toInt64) := h
theorem mp0_pass {Mc : Mem} {p0 : Int32} (h : (if (f_X5_pass Mc p0).1 = 0 then (0 : Int32) else (fun n => if n = 1 then 1 else if n = 2 then 2 else 0) (f_X5_pass Mc p0).1) = 0) : (f_X5_pass Mc p0).1 = 0 := by
  have hc : inC [1, 2] (f_X5_pass Mc p0).1 := f_X5_pass_c Mc p0
  generalize (f_X5_pass Mc p0).1 = n at h hc
  have hc : n = 0 ∨ n = 1 ∨ n = 2 := by simpa [inC] using hc
  rcases hc with rfl | rfl | rfl
  · rfl
  · exact absurd h (by decide)
  · exact absurd h (by decide)
theorem mp0_setDrift {Mc : Mem} {p0 : Int32} (h : (if (f_X5_setDrift Mc p0).1 = 0 then (0 : Int32) else (fun n => if n = 1 then 1 else 0) (f_X5_setDrift Mc p0).1) = 0) : (f_X5_setDrift Mc p0).1 = 0 := by
  have hc : inC [1] (f_X5_setDrift Mc p0).1 := f_X5_setDrift_c Mc p0
  generalize (f_X5_setDrift Mc p0).1 = n at h hc
  have hc : n = 0 ∨ n = 1 := by simpa [inC] using hc
  rcases hc with rfl | rfl
  · rfl
  · exact absurd h (by decide)
theorem mp0_announceLeap {Mc : Mem} {p0 : Int32} {p1 : Int32} (h : (if (f_X5_announceLeap Mc p0 p1).1 = 0 then (0 : Int32) else (fun n => if n = 1 then 1 else if n = 2 then 2 else 0) (f_X5_announceLeap Mc p0 p1).1) = 0) : (f_X5_announceLeap Mc p0 p1).1 = 0 := by
  have hc : inC [1, 2] (f_X5_announceLeap Mc p0 p1).1 := f_X5_announceLeap_c Mc p0 p1
  generalize (f_X5_announceLeap Mc p0 p1).1 = n at h hc
  have hc : n = 0 ∨ n = 1 ∨ n = 2 := by simpa [inC] using hc
  rcases hc with rfl | rfl | rfl
  · rfl
  · exact absurd h (by decide)
  · exact absurd h (by decide)
theorem mp0_addServer {Mc : Mem} {p0 : Int32} {p1 : Int32} {p2 : Int32} {p3 : Int32} (h : (if (f_X5_addServer Mc p0 p1 p2 p3).1 = 0 then (0 : Int32) else (fun n => if n = 1 then 1 else if n = 2 then 2 else 0) (f_X5_addServer Mc p0 p1 p2 p3).1) = 0) : (f_X5_addServer Mc p0 p1 p2 p3).1 = 0 := by
  have hc : inC [1, 2] (f_X5_addServer Mc p0 p1 p2 p3).1 := f_X5_addServer_c Mc p0 p1 p2 p3
  generalize (f_X5_addServer Mc p0 p1 p2 p3).1 = n at h hc
  have hc : n = 0 ∨ n = 1 ∨ n = 2 := by simpa [inC] using hc
  rcases hc with rfl | rfl | rfl
  · rfl
  · exact absurd h (by decide)
  · exact absurd h (by decide)
theorem mp0_setError {Mc : Mem} {p0 : Int32} {p1 : Int32} (h : (if (f_X5_setError Mc p0 p1).1 = 0 then (0 : Int32) else (fun n => if n = 3 then 1 else if n = 1 then 2 else 0) (f_X5_setError Mc p0 p1).1) = 0) : (f_X5_setError Mc p0 p1).1 = 0 := by
  have hc : inC [3, 1] (f_X5_setError Mc p0 p1).1 := f_X5_setError_c Mc p0 p1
  generalize (f_X5_setError Mc p0 p1).1 = n at h hc
  have hc : n = 0 ∨ n = 3 ∨ n = 1 := by simpa [inC] using hc
  rcases hc with rfl | rfl | rfl
  · rfl
  · exact absurd h (by decide)
  · exact absurd h (by decide)
theorem mp0_exchange {Mc : Mem} {p0 : Int32} {p1 : Int32} {p2 : Int32} {p3 : Int32} (h : (if (f_X5_exchange Mc p0 p1 p2 p3).1 = 0 then (0 : Int32) else (fun n => if n = 3 then 1 else if n = 1 then 2 else if n = 2 then 3 else 0) (f_X5_exchange Mc p0 p1 p2 p3).1) = 0) : (f_X5_exchange Mc p0 p1 p2 p3).1 = 0 := by
  have hc : inC [3, 1, 2] (f_X5_exchange Mc p0 p1 p2 p3).1 := f_X5_exchange_c Mc p0 p1 p2 p3
  generalize (f_X5_exchange Mc p0 p1 p2 p3).1 = n at h hc
  have hc : n = 0 ∨ n = 3 ∨ n = 1 ∨ n = 2 := by simpa [inC] using hc
  rcases hc with rfl | rfl | rfl | rfl
  · rfl
  · exact absurd h (by decide)
  · exact absurd h (by decide)
  · exact absurd h (by decide)
theorem mp0_samples {Mc : Mem} {p0 : Int32} (h : (if (f_X5_samples Mc p0).1 = 0 then (0 : Int32) else (fun n => if n = 3 then 1 else 0) (f_X5_samples Mc p0).1) = 0) : (f_X5_samples Mc p0).1 = 0 := by
  have hc : inC [3] (f_X5_samples Mc p0).1 := f_X5_samples_c Mc p0
  generalize (f_X5_samples Mc p0).1 = n at h hc
  have hc : n = 0 ∨ n = 3 := by simpa [inC] using hc
  rcases hc with rfl | rfl
  · rfl
  · exact absurd h (by decide)
theorem mp0_offset {Mc : Mem} {p0 : Int32} (h : (if (f_X5_offset Mc p0).1 = 0 then (0 : Int32) else (fun n => if n = 3 then 1 else if n = 2 then 2 else 0) (f_X5_offset Mc p0).1) = 0) : (f_X5_offset Mc p0).1 = 0 := by
  have hc : inC [3, 2] (f_X5_offset Mc p0).1 := f_X5_offset_c Mc p0
  generalize (f_X5_offset Mc p0).1 = n at h hc
  have hc : n = 0 ∨ n = 3 ∨ n = 2 := by simpa [inC] using hc
  rcases hc with rfl | rfl | rfl
  · rfl
  · exact absurd h (by decide)
  · exact absurd h (by decide)
theorem mp0_delay {Mc : Mem} {p0 : Int32} (h : (if (f_X5_delay Mc p0).1 = 0 then (0 : Int32) else (fun n => if n = 3 then 1 else if n = 2 then 2 else 0) (f_X5_delay Mc p0).1) = 0) : (f_X5_delay Mc p0).1 = 0 := by
  have hc : inC [3, 2] (f_X5_delay Mc p0).1 := f_X5_delay_c Mc p0
  generalize (f_X5_delay Mc p0).1 = n at h hc
  have hc : n = 0 ∨ n = 3 ∨ n = 2 := by simpa [inC] using hc
  rcases hc with rfl | rfl | rfl
  · rfl
  · exact absurd h (by decide)
  · exact absurd h (by decide)
theorem mp0_jitter {Mc : Mem} {p0 : Int32} (h : (if (f_X5_jitter Mc p0).1 = 0 then (0 : Int32) else (fun n => if n = 3 then 1 else if n = 2 then 2 else 0) (f_X5_jitter Mc p0).1) = 0) : (f_X5_jitter Mc p0).1 = 0 := by
  have hc : inC [3, 2] (f_X5_jitter Mc p0).1 := f_X5_jitter_c Mc p0
  generalize (f_X5_jitter Mc p0).1 = n at h hc
  have hc : n = 0 ∨ n = 3 ∨ n = 2 := by simpa [inC] using hc
  rcases hc with rfl | rfl | rfl
  · rfl
  · exact absurd h (by decide)
  · exact absurd h (by decide)
theorem mp0_distance {Mc : Mem} {p0 : Int32} (h : (if (f_X5_distance Mc p0).1 = 0 then (0 : Int32) else (fun n => if n = 3 then 1 else if n = 2 then 2 else 0) (f_X5_distance Mc p0).1) = 0) : (f_X5_distance Mc p0).1 = 0 := by
  have hc : inC [3, 2] (f_X5_distance Mc p0).1 := f_X5_distance_c Mc p0
  generalize (f_X5_distance Mc p0).1 = n at h hc
  have hc : n = 0 ∨ n = 3 ∨ n = 2 := by simpa [inC] using hc
  rcases hc with rfl | rfl | rfl
  · rfl
  · exact absurd h (by decide)
  · exact absurd h (by decide)
theorem mp0_low {Mc : Mem}  (h : (if (f_X5_low Mc ).1 = 0 then (0 : Int32) else (fun n => if n = 2 then 1 else 0) (f_X5_low Mc ).1) = 0) : (f_X5_low Mc ).1 = 0 := by
  have hc : inC [2] (f_X5_low Mc ).1 := f_X5_low_c Mc 
  generalize (f_X5_low Mc ).1 = n at h hc
  have hc : n = 0 ∨ n = 2 := by simpa [inC] using hc
  rcases hc with rfl | rfl
  · rfl
  · exact absurd h (by decide)
theorem mp0_high {Mc : Mem}  (h : (if (f_X5_high Mc ).1 = 0 then (0 : Int32) else (fun n => if n = 2 then 1 else 0) (f_X5_high Mc ).1) = 0) : (f_X5_high Mc ).1 = 0 := by
  have hc : inC [2] (f_X5_high Mc ).1 := f_X5_high_c Mc 
  generalize (f_X5_high Mc ).1 = n at h hc
  have hc : n = 0 ∨ n = 2 := by simpa [inC] using hc
  rcases hc with rfl | rfl
  · rfl
  · exact absurd h (by decide)
theorem mp0_combinedOffset {Mc : Mem}  (h : (if (f_X5_combinedOffset Mc ).1 = 0 then (0 : Int32) else (fun n => if n = 2 then 1 else 0) (f_X5_combinedOffset Mc ).1) = 0) : (f_X5_combinedOffset Mc ).1 = 0 := by
  have hc : inC [2] (f_X5_combinedOffset Mc ).1 := f_X5_combinedOffset_c Mc 
  generalize (f_X5_combinedOffset Mc ).1 = n at h hc
  have hc : n = 0 ∨ n = 2 := by simpa [inC] using hc
  rcases hc with rfl | rfl
  · rfl
  · exact absurd h (by decide)
theorem mp0_synchronize {Mc : Mem}  (h : (if (f_X5_synchronize Mc ).1 = 0 then (0 : Int32) else (fun n => if n = 2 then 1 else 0) (f_X5_synchronize Mc ).1) = 0) : (f_X5_synchronize Mc ).1 = 0 := by
  have hc : inC [2] (f_X5_synchronize Mc ).1 := f_X5_synchronize_c Mc 
  generalize (f_X5_synchronize Mc ).1 = n at h hc
  have hc : n = 0 ∨ n = 2 := by simpa [inC] using hc
  rcases hc with rfl | rfl
  · rfl
  · exact absurd h (by decide)
set_option maxHeartbeats 4000000 in
set_option maxRecDepth 100000 in
theorem lc_0 {p : Program} {l : Launch} {e : Env} {s : State} {m : MethodId} {below : List Frame} {meth : Method} {c : Code} {b L : Nat} {xs : Nat → Int32} {dC : Nat → ClassId} {dI : Nat → Nat → Nat} {cA : Nat → ClassId} {ad am : Nat → Nat} {qo : Nat} (C : LCx p l s m c b L xs dC dI cA ad am qo) {Q : State → Prop} {cells slots i : Nat} (hi : i + 5 ≤ L) (hcc : cells + 3 ≤ 633746 ∧ slots + 18 ≤ 7194866) {Mc Mm : Mem} {fo : Nat → Int64} {H : Heap} {locs : List Loc} {ls : Array Slot} (hW : LWx s H locs dC dI cA ad am qo Mc Mm fo) (hwm : WFm Mm) (hl : lv_has ls 8 [(4, .int (nI (i))), (3, .ref qo), (2, .ref (am (0))), (1, .ref (ad (0))), (0, .ref b)])
    (kk : ∀ (H : Heap) (locs : List Loc) (ls : Array Slot) (fo : Nat → Int64), LWx s H locs dC dI cA ad am qo ((f_X5_restart Mc (xs (i + 1))).2) (f_X6_restart Mm (xs (i + 1))) fo → WFm (f_X6_restart Mm (xs (i + 1))) → lv_has ls 8 [(4, .int (nI (i))), (3, .ref qo), (2, .ref (am (0))), (1, .ref (ad (0))), (0, .ref b)] → W p l e room_1 s m #[Value.ref b] below meth c H locs (cells + 3) (slots + 18) Q (F0 m 880 ls [])) : W p l e room_1 s m #[Value.ref b] below meth c H locs cells slots Q (F0 m 176 ls []) := by
  obtain ⟨hx, hb, hml, hown, hts, hK, hKX, hNC, hfl, hX, hbl, hL, hI, hIm, hge, hgm, hgo, hap, hqc, hqm⟩ := C
  obtain ⟨hPc, hPm, hPo, hS⟩ := hW
  have hbA : ¬ (fun q : Nat => s.heap.size ≤ q) b := Nat.not_le.mpr hbl
  have hAm : ∀ q, adS 12 am q → s.heap.size ≤ q := fun q ⟨k, hk, e⟩ => e ▸ hgm k hk
  have hAc : ∀ q, adS 69 ad q → s.heap.size ≤ q := fun q ⟨k, hk, e⟩ => e ▸ hge k hk
  refine lv_aload_n hx hb dL_law_176 rfl (lv_at hl 3 rfl) ?_
  refine lv_aload_n hx hb dL_law_177 rfl (lv_at hl 4 rfl) ?_
  refine lv_iload hx hb dL_law_178 (lv_at hl 0 rfl) ?_
  refine lv_iconst (v := 1) hx hb dL_law_180 (by decide) ?_
  refine lv_iadd hx hb dL_law_181 ?_
  refine w_eqi (y := nI (i + 1)) (nI_add i 1) ?_
  refine va_sld hx hb hX hbl hbA hS (vp_in_nI (n := i + 1) (by omega) (by omega)) dL_law_182 ?_
  rw [nI_clamp (n := i + 1) (by omega)]
  refine kW hx hb hml hown hts hK hPc hPo hS hKX hNC hge hgo (As := [.ref (ad (0)), .int (xs (i + 1))]) (rest := []) (c_L_restart l hfl dC dI cA ad hI qo hqc Mc fo (xs (i + 1))) (mkSW hts q_450 q_46 q_448 q_449 hyL_restart rfl rfl ⟨(Nat.le_of_ble_eq_true rfl), (Nat.le_of_ble_eq_true rfl)⟩) rfl hl.1 rfl (Nat.le_of_ble_eq_true rfl) dL_law_183 ⟨by show cells + 1 ≤ 633746; omega, by show slots + 6 ≤ 7194866; omega⟩ (fun r z H locs hw hPc hPo hS _ hk => ?_)
  obtain ⟨Mc1, fo1⟩ := z
  obtain ⟨r0, er⟩ : ∃ z, z = r := ⟨_, rfl⟩
  rw [← er] at hw
  refine w_eqi er.symm ?_
  obtain ⟨hr, hz1, hv1⟩ := hw
  dsimp only at hz1 hv1 hPc hPo
  have hPm := wld_kept hPm (B := adW ad qo) (fun k hk9 h => h.elim (fun ⟨j, hj, e⟩ => hap j k hj hk9 e.symm) (fun e => hqm k hk9 e.symm)) hk
  refine lv_istore (lv' := [(5, .int r0), (4, .int (nI (i))), (3, .ref qo), (2, .ref (am (0))), (1, .ref (ad (0))), (0, .ref b)]) hx hb dL_law_186 hl (by decide) rfl (fun ls hl => ?_)
  refine lv_aload_n hx hb dL_law_188 rfl (lv_at hl 3 rfl) ?_
  refine lv_aload_n hx hb dL_law_189 rfl (lv_at hl 5 rfl) ?_
  refine lv_iload hx hb dL_law_190 (lv_at hl 1 rfl) ?_
  refine lv_iconst (v := 1) hx hb dL_law_192 (by decide) ?_
  refine lv_iadd hx hb dL_law_193 ?_
  refine w_eqi (y := nI (i + 1)) (nI_add i 1) ?_
  refine va_sld hx hb hX hbl hbA hS (vp_in_nI (n := i + 1) (by omega) (by omega)) dL_law_194 ?_
  rw [nI_clamp (n := i + 1) (by omega)]
  refine kVv hx hb hml hown hts hK hPm hS hAm (As := [.int (xs (i + 1))]) (rest := []) (c_X6_restart l dC dI cA am hIm Mm (xs (i + 1)) hwm) (mkV hts q_904 q_53 q_901 q_902 q_903 hyX6_restart rfl rfl ⟨(Nat.le_of_ble_eq_true rfl), (Nat.le_of_ble_eq_true rfl)⟩) (w_recv hK hPm (k := 0) (by decide) lyM0 (q := (RX6, TX6, 26)) rfl) rfl hl.1 rfl (Nat.le_of_ble_eq_true rfl) dL_law_195 ⟨by show cells + 1 ≤ 633746; omega, by show slots + 6 ≤ 7194866; omega⟩ (fun u H locs hw hPm hS _ hk => ?_)
  have hPc := wld_kept hPc (B := adS 12 am) (fun k hk9 ⟨j, hj, e⟩ => hap k j hk9 hj e) hk
  have hPo := outB_kept hPo (B := adS 12 am) (fun ⟨j, hj, e⟩ => hqm j hj e) hk
  obtain ⟨hw, hwm⟩ := hw
  obtain ⟨Mm1, em⟩ : ∃ z, z = u := ⟨_, rfl⟩
  rw [← em] at hw hwm hPm
  have hMm := hw
  refine lv_goto (tgt := 880) hx hb dL_law_198 (by decide) ?_
  refine W.widen (k := cells + 3) (n := slots + 18) (by omega) (by omega) ?_
  rw [hz1] at hPc
  rw [hMm] at hPm hwm
  exact kk _ _ _ _ ⟨hPc, hPm, hPo, hS⟩ hwm (lv_sub hl [1, 2, 3, 4, 5] rfl)
set_option maxHeartbeats 4000000 in
set_option maxRecDepth 100000 in
theorem lc_1 {p : Program} {l : Launch} {e : Env} {s : State} {m : MethodId} {below : List Frame} {meth : Method} {c : Code} {b L : Nat} {xs : Nat → Int32} {dC : Nat → ClassId} {dI : Nat → Nat → Nat} {cA : Nat → ClassId} {ad am : Nat → Nat} {qo : Nat} (C : LCx p l s m c b L xs dC dI cA ad am qo) {Q : State → Prop} {cells slots i : Nat} (hi : i + 5 ≤ L) (hcc : cells + 3 ≤ 633746 ∧ slots + 18 ≤ 7194866) {Mc Mm : Mem} {fo : Nat → Int64} {H : Heap} {locs : List Loc} {ls : Array Slot} (hW : LWx s H locs dC dI cA ad am qo Mc Mm fo) (hwm : WFm Mm) (hl : lv_has ls 8 [(4, .int (nI (i))), (3, .ref qo), (2, .ref (am (0))), (1, .ref (ad (0))), (0, .ref b)])
    (kk : ∀ (H : Heap) (locs : List Loc) (ls : Array Slot) (fo : Nat → Int64), LWx s H locs dC dI cA ad am qo ((f_X5_pass Mc (xs (i + 1))).2.2) ((f_X6_pass Mm (xs (i + 1))).2) fo → WFm ((f_X6_pass Mm (xs (i + 1))).2) → lv_has ls 8 [(4, .int (nI (i))), (3, .ref qo), (2, .ref (am (0))), (1, .ref (ad (0))), (0, .ref b)] → W p l e room_1 s m #[Value.ref b] below meth c H locs (cells + 3) (slots + 18) Q (F0 m 880 ls [])) : W p l e room_1 s m #[Value.ref b] below meth c H locs cells slots Q (F0 m 201 ls []) := by
  obtain ⟨hx, hb, hml, hown, hts, hK, hKX, hNC, hfl, hX, hbl, hL, hI, hIm, hge, hgm, hgo, hap, hqc, hqm⟩ := C
  obtain ⟨hPc, hPm, hPo, hS⟩ := hW
  have hbA : ¬ (fun q : Nat => s.heap.size ≤ q) b := Nat.not_le.mpr hbl
  have hAm : ∀ q, adS 12 am q → s.heap.size ≤ q := fun q ⟨k, hk, e⟩ => e ▸ hgm k hk
  have hAc : ∀ q, adS 69 ad q → s.heap.size ≤ q := fun q ⟨k, hk, e⟩ => e ▸ hge k hk
  refine lv_aload_n hx hb dL_law_201 rfl (lv_at hl 3 rfl) ?_
  refine lv_aload_n hx hb dL_law_202 rfl (lv_at hl 4 rfl) ?_
  refine lv_iload hx hb dL_law_203 (lv_at hl 0 rfl) ?_
  refine lv_iconst (v := 1) hx hb dL_law_205 (by decide) ?_
  refine lv_iadd hx hb dL_law_206 ?_
  refine w_eqi (y := nI (i + 1)) (nI_add i 1) ?_
  refine va_sld hx hb hX hbl hbA hS (vp_in_nI (n := i + 1) (by omega) (by omega)) dL_law_207 ?_
  rw [nI_clamp (n := i + 1) (by omega)]
  refine lv_aload_n hx hb dL_law_208 rfl (lv_at hl 1 rfl) ?_
  refine kW hx hb hml hown hts hK hPc hPo hS hKX hNC hge hgo (As := [.ref (ad (0)), .int (xs (i + 1)), .ref qo]) (rest := []) (c_L_pass l hfl dC dI cA ad hI qo hqc Mc fo (xs (i + 1))) (mkSW hts q_526 q_46 q_524 q_525 hyL_pass rfl rfl ⟨(Nat.le_of_ble_eq_true rfl), (Nat.le_of_ble_eq_true rfl)⟩) rfl hl.1 rfl (Nat.le_of_ble_eq_true rfl) dL_law_209 ⟨by show cells + 1 ≤ 633746; omega, by show slots + 6 ≤ 7194866; omega⟩ (fun r z H locs hw hPc hPo hS _ hk => ?_)
  obtain ⟨Mc1, fo1⟩ := z
  obtain ⟨r0, er⟩ : ∃ z, z = r := ⟨_, rfl⟩
  rw [← er] at hw
  refine w_eqi er.symm ?_
  obtain ⟨hr, hz1, hv1⟩ := hw
  dsimp only at hz1 hv1 hPc hPo
  have hPm := wld_kept hPm (B := adW ad qo) (fun k hk9 h => h.elim (fun ⟨j, hj, e⟩ => hap j k hj hk9 e.symm) (fun e => hqm k hk9 e.symm)) hk
  refine lv_istore (lv' := [(5, .int r0), (4, .int (nI (i))), (3, .ref qo), (2, .ref (am (0))), (1, .ref (ad (0))), (0, .ref b)]) hx hb dL_law_212 hl (by decide) rfl (fun ls hl => ?_)
  refine lv_aload_n hx hb dL_law_214 rfl (lv_at hl 3 rfl) ?_
  refine lv_aload_n hx hb dL_law_215 rfl (lv_at hl 5 rfl) ?_
  refine lv_iload hx hb dL_law_216 (lv_at hl 1 rfl) ?_
  refine lv_iconst (v := 1) hx hb dL_law_218 (by decide) ?_
  refine lv_iadd hx hb dL_law_219 ?_
  refine w_eqi (y := nI (i + 1)) (nI_add i 1) ?_
  refine va_sld hx hb hX hbl hbA hS (vp_in_nI (n := i + 1) (by omega) (by omega)) dL_law_220 ?_
  rw [nI_clamp (n := i + 1) (by omega)]
  refine kVl hx hb hml hown hts hK hPm hS hAm (As := [.int (xs (i + 1))]) (rest := []) (c_X6_pass l dC dI cA am hIm Mm (xs (i + 1)) hwm) (mkV hts q_918 q_53 q_915 q_916 q_917 hyX6_pass rfl rfl ⟨(Nat.le_of_ble_eq_true rfl), (Nat.le_of_ble_eq_true rfl)⟩) (w_recv hK hPm (k := 0) (by decide) lyM0 (q := (RX6, TX6, 26)) rfl) rfl hl.1 rfl (Nat.le_of_ble_eq_true rfl) dL_law_221 ⟨by show cells + 1 ≤ 633746; omega, by show slots + 6 ≤ 7194866; omega⟩ (fun r u H locs hw hPm hS _ hk => ?_)
  have hPc := wld_kept hPc (B := adS 12 am) (fun k hk9 ⟨j, hj, e⟩ => hap k j hk9 hj e) hk
  have hPo := outB_kept hPo (B := adS 12 am) (fun ⟨j, hj, e⟩ => hqm j hj e) hk
  obtain ⟨hw, hwm⟩ := hw
  obtain ⟨Mm1, em⟩ : ∃ z, z = u := ⟨_, rfl⟩
  rw [← em] at hw hwm hPm
  obtain ⟨b1, eb⟩ : ∃ z, z = r := ⟨_, rfl⟩
  rw [← eb] at hw
  refine w_eql eb.symm ?_
  have hMm := congrArg Prod.snd hw
  have hb0 := congrArg Prod.fst hw
  dsimp only at hMm hb0
  have hb1 := hb0.symm
  refine lv_lstore (lv' := [(6, .long b1), (5, .int r0), (4, .int (nI (i))), (3, .ref qo), (2, .ref (am (0))), (1, .ref (ad (0))), (0, .ref b)]) hx hb dL_law_224 hl (by decide) rfl (fun ls hl => ?_)
  refine lv_goto (tgt := 880) hx hb dL_law_226 (by decide) ?_
  refine W.widen (k := cells + 3) (n := slots + 18) (by omega) (by omega) ?_
  rw [hz1] at hPc
  rw [hMm] at hPm hwm
  exact kk _ _ _ _ ⟨hPc, hPm, hPo, hS⟩ hwm (lv_sub hl [2, 3, 4, 5, 6] rfl)
set_option maxHeartbeats 4000000 in
set_option maxRecDepth 100000 in
theorem lc_2 {p : Program} {l : Launch} {e : Env} {s : State} {m : MethodId} {below : List Frame} {meth : Method} {c : Code} {b L : Nat} {xs : Nat → Int32} {dC : Nat → ClassId} {dI : Nat → Nat → Nat} {cA : Nat → ClassId} {ad am : Nat → Nat} {qo : Nat} (C : LCx p l s m c b L xs dC dI cA ad am qo) {Q : State → Prop} {cells slots i : Nat} (hi : i + 5 ≤ L) (hcc : cells + 3 ≤ 633746 ∧ slots + 18 ≤ 7194866) {Mc Mm : Mem} {fo : Nat → Int64} {H : Heap} {locs : List Loc} {ls : Array Slot} (hW : LWx s H locs dC dI cA ad am qo Mc Mm fo) (hwm : WFm Mm) (hl : lv_has ls 8 [(4, .int (nI (i))), (3, .ref qo), (2, .ref (am (0))), (1, .ref (ad (0))), (0, .ref b)])
    (kk : ∀ (H : Heap) (locs : List Loc) (ls : Array Slot) (fo : Nat → Int64), LWx s H locs dC dI cA ad am qo ((f_X5_setDrift Mc (xs (i + 1))).2.2) ((f_X6_setDrift Mm (xs (i + 1))).2) fo → WFm ((f_X6_setDrift Mm (xs (i + 1))).2) → lv_has ls 8 [(4, .int (nI (i))), (3, .ref qo), (2, .ref (am (0))), (1, .ref (ad (0))), (0, .ref b)] → W p l e room_1 s m #[Value.ref b] below meth c H locs (cells + 3) (slots + 18) Q (F0 m 880 ls [])) : W p l e room_1 s m #[Value.ref b] below meth c H locs cells slots Q (F0 m 229 ls []) := by
  obtain ⟨hx, hb, hml, hown, hts, hK, hKX, hNC, hfl, hX, hbl, hL, hI, hIm, hge, hgm, hgo, hap, hqc, hqm⟩ := C
  obtain ⟨hPc, hPm, hPo, hS⟩ := hW
  have hbA : ¬ (fun q : Nat => s.heap.size ≤ q) b := Nat.not_le.mpr hbl
  have hAm : ∀ q, adS 12 am q → s.heap.size ≤ q := fun q ⟨k, hk, e⟩ => e ▸ hgm k hk
  have hAc : ∀ q, adS 69 ad q → s.heap.size ≤ q := fun q ⟨k, hk, e⟩ => e ▸ hge k hk
  refine lv_aload_n hx hb dL_law_229 rfl (lv_at hl 3 rfl) ?_
  refine lv_aload_n hx hb dL_law_230 rfl (lv_at hl 4 rfl) ?_
  refine lv_iload hx hb dL_law_231 (lv_at hl 0 rfl) ?_
  refine lv_iconst (v := 1) hx hb dL_law_233 (by decide) ?_
  refine lv_iadd hx hb dL_law_234 ?_
  refine w_eqi (y := nI (i + 1)) (nI_add i 1) ?_
  refine va_sld hx hb hX hbl hbA hS (vp_in_nI (n := i + 1) (by omega) (by omega)) dL_law_235 ?_
  rw [nI_clamp (n := i + 1) (by omega)]
  refine lv_aload_n hx hb dL_law_236 rfl (lv_at hl 1 rfl) ?_
  refine kW hx hb hml hown hts hK hPc hPo hS hKX hNC hge hgo (As := [.ref (ad (0)), .int (xs (i + 1)), .ref qo]) (rest := []) (c_L_setDrift l hfl dC dI cA ad hI qo hqc Mc fo (xs (i + 1))) (mkSW hts q_569 q_46 q_567 q_568 hyL_setDrift rfl rfl ⟨(Nat.le_of_ble_eq_true rfl), (Nat.le_of_ble_eq_true rfl)⟩) rfl hl.1 rfl (Nat.le_of_ble_eq_true rfl) dL_law_237 ⟨by show cells + 1 ≤ 633746; omega, by show slots + 6 ≤ 7194866; omega⟩ (fun r z H locs hw hPc hPo hS _ hk => ?_)
  obtain ⟨Mc1, fo1⟩ := z
  obtain ⟨r0, er⟩ : ∃ z, z = r := ⟨_, rfl⟩
  rw [← er] at hw
  refine w_eqi er.symm ?_
  obtain ⟨hr, hz1, hv1⟩ := WPn_int hw
  dsimp only at hz1 hv1 hPc hPo
  have hPm := wld_kept hPm (B := adW ad qo) (fun k hk9 h => h.elim (fun ⟨j, hj, e⟩ => hap j k hj hk9 e.symm) (fun e => hqm k hk9 e.symm)) hk
  refine lv_istore (lv' := [(5, .int r0), (4, .int (nI (i))), (3, .ref qo), (2, .ref (am (0))), (1, .ref (ad (0))), (0, .ref b)]) hx hb dL_law_240 hl (by decide) rfl (fun ls hl => ?_)
  refine lv_aload_n hx hb dL_law_242 rfl (lv_at hl 3 rfl) ?_
  refine lv_aload_n hx hb dL_law_243 rfl (lv_at hl 5 rfl) ?_
  refine lv_iload hx hb dL_law_244 (lv_at hl 1 rfl) ?_
  refine lv_iconst (v := 1) hx hb dL_law_246 (by decide) ?_
  refine lv_iadd hx hb dL_law_247 ?_
  refine w_eqi (y := nI (i + 1)) (nI_add i 1) ?_
  refine va_sld hx hb hX hbl hbA hS (vp_in_nI (n := i + 1) (by omega) (by omega)) dL_law_248 ?_
  rw [nI_clamp (n := i + 1) (by omega)]
  refine kVi hx hb hml hown hts hK hPm hS hAm (As := [.int (xs (i + 1))]) (rest := []) (c_X6_setDrift l dC dI cA am hIm Mm (xs (i + 1)) hwm) (mkV hts q_935 q_53 q_932 q_933 q_934 hyX6_setDrift rfl rfl ⟨(Nat.le_of_ble_eq_true rfl), (Nat.le_of_ble_eq_true rfl)⟩) (w_recv hK hPm (k := 0) (by decide) lyM0 (q := (RX6, TX6, 26)) rfl) rfl hl.1 rfl (Nat.le_of_ble_eq_true rfl) dL_law_249 ⟨by show cells + 1 ≤ 633746; omega, by show slots + 6 ≤ 7194866; omega⟩ (fun r u H locs hw hPm hS _ hk => ?_)
  have hPc := wld_kept hPc (B := adS 12 am) (fun k hk9 ⟨j, hj, e⟩ => hap k j hk9 hj e) hk
  have hPo := outB_kept hPo (B := adS 12 am) (fun ⟨j, hj, e⟩ => hqm j hj e) hk
  obtain ⟨hw, hwm⟩ := hw
  obtain ⟨Mm1, em⟩ : ∃ z, z = u := ⟨_, rfl⟩
  rw [← em] at hw hwm hPm
  obtain ⟨b1, eb⟩ : ∃ z, z = r := ⟨_, rfl⟩
  rw [← eb] at hw
  refine w_eqi eb.symm ?_
  have hMm := congrArg Prod.snd hw
  have hb0 := congrArg Prod.fst hw
  dsimp only at hMm hb0
  have hb1 := (congrArg Int32.toInt64 hb0).symm
  refine lv_istore (lv' := [(6, .int b1), (5, .int r0), (4, .int (nI (i))), (3, .ref qo), (2, .ref (am (0))), (1, .ref (ad (0))), (0, .ref b)]) hx hb dL_law_252 hl (by decide) rfl (fun ls hl => ?_)
  refine lv_goto (tgt := 880) hx hb dL_law_254 (by decide) ?_
  refine W.widen (k := cells + 3) (n := slots + 18) (by omega) (by omega) ?_
  rw [hz1] at hPc
  rw [hMm] at hPm hwm
  exact kk _ _ _ _ ⟨hPc, hPm, hPo, hS⟩ hwm (lv_sub hl [2, 3, 4, 5, 6] rfl)
set_option maxHeartbeats 4000000 in
set_option maxRecDepth 100000 in
theorem lc_3 {p : Program} {l : Launch} {e : Env} {s : State} {m : MethodId} {below : List Frame} {meth : Method} {c : Code} {b L : Nat} {xs : Nat → Int32} {dC : Nat → ClassId} {dI : Nat → Nat → Nat} {cA : Nat → ClassId} {ad am : Nat → Nat} {qo : Nat} (C : LCx p l s m c b L xs dC dI cA ad am qo) {Q : State → Prop} {cells slots i : Nat} (hi : i + 5 ≤ L) (hcc : cells + 3 ≤ 633746 ∧ slots + 18 ≤ 7194866) {Mc Mm : Mem} {fo : Nat → Int64} {H : Heap} {locs : List Loc} {ls : Array Slot} (hW : LWx s H locs dC dI cA ad am qo Mc Mm fo) (hwm : WFm Mm) (hl : lv_has ls 8 [(4, .int (nI (i))), (3, .ref qo), (2, .ref (am (0))), (1, .ref (ad (0))), (0, .ref b)])
    (kk : ∀ (H : Heap) (locs : List Loc) (ls : Array Slot) (fo : Nat → Int64), LWx s H locs dC dI cA ad am qo Mc ((f_X6_trueTime Mm).2) fo → WFm ((f_X6_trueTime Mm).2) → lv_has ls 8 [(4, .int (nI (i))), (3, .ref qo), (2, .ref (am (0))), (1, .ref (ad (0))), (0, .ref b)] → W p l e room_1 s m #[Value.ref b] below meth c H locs (cells + 3) (slots + 18) Q (F0 m 880 ls [])) : W p l e room_1 s m #[Value.ref b] below meth c H locs cells slots Q (F0 m 257 ls []) := by
  obtain ⟨hx, hb, hml, hown, hts, hK, hKX, hNC, hfl, hX, hbl, hL, hI, hIm, hge, hgm, hgo, hap, hqc, hqm⟩ := C
  obtain ⟨hPc, hPm, hPo, hS⟩ := hW
  have hbA : ¬ (fun q : Nat => s.heap.size ≤ q) b := Nat.not_le.mpr hbl
  have hAm : ∀ q, adS 12 am q → s.heap.size ≤ q := fun q ⟨k, hk, e⟩ => e ▸ hgm k hk
  have hAc : ∀ q, adS 69 ad q → s.heap.size ≤ q := fun q ⟨k, hk, e⟩ => e ▸ hge k hk
  refine lv_aload_n hx hb dL_law_257 rfl (lv_at hl 3 rfl) ?_
  refine kVl hx hb hml hown hts hK hPc hS hAc (As := []) (rest := []) (c_X5_trueTime l dC dI cA ad hI Mc) (mkV hts q_231 q_47 q_228 q_229 q_230 hyX5_trueTime rfl rfl ⟨(Nat.le_of_ble_eq_true rfl), (Nat.le_of_ble_eq_true rfl)⟩) (w_recv hK hPc (k := 0) (by decide) lyC0 (q := (RX5, TX5, 10)) rfl) rfl hl.1 rfl (Nat.le_of_ble_eq_true rfl) dL_law_258 ⟨by show cells ≤ 633746; omega, by show slots ≤ 7194866; omega⟩ (fun r u H locs hw hPc hS _ hk => ?_)
  have hPm := wld_kept hPm (B := adS 69 ad) (fun k hk9 ⟨j, hj, e⟩ => hap j k hj hk9 e.symm) hk
  have hPo := outB_kept hPo (B := adS 69 ad) (fun ⟨j, hj, e⟩ => hqc j hj e) hk
  obtain ⟨Mc1, ec⟩ : ∃ z, z = u := ⟨_, rfl⟩
  rw [← ec] at hw hPc
  obtain ⟨a1, ea⟩ : ∃ z, z = r := ⟨_, rfl⟩
  rw [← ea] at hw
  refine w_eql ea.symm ?_
  obtain ⟨ha0, hz1⟩ := hw
  refine lv_pop2_2 hx hb dL_law_261 rfl ?_
  refine lv_aload_n hx hb dL_law_262 rfl (lv_at hl 2 rfl) ?_
  refine kVl hx hb hml hown hts hK hPm hS hAm (As := []) (rest := []) (c_X6_trueTime l dC dI cA am hIm Mm  hwm) (mkV hts q_941 q_53 q_938 q_939 q_940 hyX6_trueTime rfl rfl ⟨(Nat.le_of_ble_eq_true rfl), (Nat.le_of_ble_eq_true rfl)⟩) (w_recv hK hPm (k := 0) (by decide) lyM0 (q := (RX6, TX6, 26)) rfl) rfl hl.1 rfl (Nat.le_of_ble_eq_true rfl) dL_law_263 ⟨by show cells ≤ 633746; omega, by show slots ≤ 7194866; omega⟩ (fun r u H locs hw hPm hS _ hk => ?_)
  have hPc := wld_kept hPc (B := adS 12 am) (fun k hk9 ⟨j, hj, e⟩ => hap k j hk9 hj e) hk
  have hPo := outB_kept hPo (B := adS 12 am) (fun ⟨j, hj, e⟩ => hqm j hj e) hk
  obtain ⟨hw, hwm⟩ := hw
  obtain ⟨Mm1, em⟩ : ∃ z, z = u := ⟨_, rfl⟩
  rw [← em] at hw hwm hPm
  obtain ⟨b1, eb⟩ : ∃ z, z = r := ⟨_, rfl⟩
  rw [← eb] at hw
  refine w_eql eb.symm ?_
  have hMm := congrArg Prod.snd hw
  have hb0 := congrArg Prod.fst hw
  dsimp only at hMm hb0
  refine lv_pop2_2 hx hb dL_law_266 rfl ?_
  refine lv_goto (tgt := 880) hx hb dL_law_267 (by decide) ?_
  refine W.widen (k := cells + 3) (n := slots + 18) (by omega) (by omega) ?_
  rw [hz1] at hPc
  rw [hMm] at hPm hwm
  exact kk _ _ _ _ ⟨hPc, hPm, hPo, hS⟩ hwm (lv_sub hl [0, 1, 2, 3, 4] rfl)
set_option maxHeartbeats 4000000 in
set_option maxRecDepth 100000 in
theorem lc_4 {p : Program} {l : Launch} {e : Env} {s : State} {m : MethodId} {below : List Frame} {meth : Method} {c : Code} {b L : Nat} {xs : Nat → Int32} {dC : Nat → ClassId} {dI : Nat → Nat → Nat} {cA : Nat → ClassId} {ad am : Nat → Nat} {qo : Nat} (C : LCx p l s m c b L xs dC dI cA ad am qo) {Q : State → Prop} {cells slots i : Nat} (hi : i + 5 ≤ L) (hcc : cells + 3 ≤ 633746 ∧ slots + 18 ≤ 7194866) {Mc Mm : Mem} {fo : Nat → Int64} {H : Heap} {locs : List Loc} {ls : Array Slot} (hW : LWx s H locs dC dI cA ad am qo Mc Mm fo) (hwm : WFm Mm) (hl : lv_has ls 8 [(4, .int (nI (i))), (3, .ref qo), (2, .ref (am (0))), (1, .ref (ad (0))), (0, .ref b)])
    (kk : ∀ (H : Heap) (locs : List Loc) (ls : Array Slot) (fo : Nat → Int64), LWx s H locs dC dI cA ad am qo Mc ((f_X6_clock Mm).2) fo → WFm ((f_X6_clock Mm).2) → lv_has ls 8 [(4, .int (nI (i))), (3, .ref qo), (2, .ref (am (0))), (1, .ref (ad (0))), (0, .ref b)] → W p l e room_1 s m #[Value.ref b] below meth c H locs (cells + 3) (slots + 18) Q (F0 m 880 ls [])) : W p l e room_1 s m #[Value.ref b] below meth c H locs cells slots Q (F0 m 270 ls []) := by
  obtain ⟨hx, hb, hml, hown, hts, hK, hKX, hNC, hfl, hX, hbl, hL, hI, hIm, hge, hgm, hgo, hap, hqc, hqm⟩ := C
  obtain ⟨hPc, hPm, hPo, hS⟩ := hW
  have hbA : ¬ (fun q : Nat => s.heap.size ≤ q) b := Nat.not_le.mpr hbl
  have hAm : ∀ q, adS 12 am q → s.heap.size ≤ q := fun q ⟨k, hk, e⟩ => e ▸ hgm k hk
  have hAc : ∀ q, adS 69 ad q → s.heap.size ≤ q := fun q ⟨k, hk, e⟩ => e ▸ hge k hk
  refine lv_aload_n hx hb dL_law_270 rfl (lv_at hl 3 rfl) ?_
  refine kVl hx hb hml hown hts hK hPc hS hAc (As := []) (rest := []) (c_X5_clock l dC dI cA ad hI Mc) (mkV hts q_235 q_47 q_232 q_233 q_234 hyX5_clock rfl rfl ⟨(Nat.le_of_ble_eq_true rfl), (Nat.le_of_ble_eq_true rfl)⟩) (w_recv hK hPc (k := 0) (by decide) lyC0 (q := (RX5, TX5, 10)) rfl) rfl hl.1 rfl (Nat.le_of_ble_eq_true rfl) dL_law_271 ⟨by show cells ≤ 633746; omega, by show slots ≤ 7194866; omega⟩ (fun r u H locs hw hPc hS _ hk => ?_)
  have hPm := wld_kept hPm (B := adS 69 ad) (fun k hk9 ⟨j, hj, e⟩ => hap j k hj hk9 e.symm) hk
  have hPo := outB_kept hPo (B := adS 69 ad) (fun ⟨j, hj, e⟩ => hqc j hj e) hk
  obtain ⟨Mc1, ec⟩ : ∃ z, z = u := ⟨_, rfl⟩
  rw [← ec] at hw hPc
  obtain ⟨a1, ea⟩ : ∃ z, z = r := ⟨_, rfl⟩
  rw [← ea] at hw
  refine w_eql ea.symm ?_
  obtain ⟨ha0, hz1⟩ := hw
  refine lv_pop2_2 hx hb dL_law_274 rfl ?_
  refine lv_aload_n hx hb dL_law_275 rfl (lv_at hl 2 rfl) ?_
  refine kVl hx hb hml hown hts hK hPm hS hAm (As := []) (rest := []) (c_X6_clock l dC dI cA am hIm Mm  hwm) (mkV hts q_949 q_53 q_946 q_947 q_948 hyX6_clock rfl rfl ⟨(Nat.le_of_ble_eq_true rfl), (Nat.le_of_ble_eq_true rfl)⟩) (w_recv hK hPm (k := 0) (by decide) lyM0 (q := (RX6, TX6, 26)) rfl) rfl hl.1 rfl (Nat.le_of_ble_eq_true rfl) dL_law_276 ⟨by show cells ≤ 633746; omega, by show slots ≤ 7194866; omega⟩ (fun r u H locs hw hPm hS _ hk => ?_)
  have hPc := wld_kept hPc (B := adS 12 am) (fun k hk9 ⟨j, hj, e⟩ => hap k j hk9 hj e) hk
  have hPo := outB_kept hPo (B := adS 12 am) (fun ⟨j, hj, e⟩ => hqm j hj e) hk
  obtain ⟨hw, hwm⟩ := hw
  obtain ⟨Mm1, em⟩ : ∃ z, z = u := ⟨_, rfl⟩
  rw [← em] at hw hwm hPm
  obtain ⟨b1, eb⟩ : ∃ z, z = r := ⟨_, rfl⟩
  rw [← eb] at hw
  refine w_eql eb.symm ?_
  have hMm := congrArg Prod.snd hw
  have hb0 := congrArg Prod.fst hw
  dsimp only at hMm hb0
  refine lv_pop2_2 hx hb dL_law_279 rfl ?_
  refine lv_goto (tgt := 880) hx hb dL_law_280 (by decide) ?_
  refine W.widen (k := cells + 3) (n := slots + 18) (by omega) (by omega) ?_
  rw [hz1] at hPc
  rw [hMm] at hPm hwm
  exact kk _ _ _ _ ⟨hPc, hPm, hPo, hS⟩ hwm (lv_sub hl [0, 1, 2, 3, 4] rfl)
set_option maxHeartbeats 4000000 in
set_option maxRecDepth 100000 in
theorem lc_5 {p : Program} {l : Launch} {e : Env} {s : State} {m : MethodId} {below : List Frame} {meth : Method} {c : Code} {b L : Nat} {xs : Nat → Int32} {dC : Nat → ClassId} {dI : Nat → Nat → Nat} {cA : Nat → ClassId} {ad am : Nat → Nat} {qo : Nat} (C : LCx p l s m c b L xs dC dI cA ad am qo) {Q : State → Prop} {cells slots i : Nat} (hi : i + 5 ≤ L) (hcc : cells + 3 ≤ 633746 ∧ slots + 18 ≤ 7194866) {Mc Mm : Mem} {fo : Nat → Int64} {H : Heap} {locs : List Loc} {ls : Array Slot} (hW : LWx s H locs dC dI cA ad am qo Mc Mm fo) (hwm : WFm Mm) (hl : lv_has ls 8 [(4, .int (nI (i))), (3, .ref qo), (2, .ref (am (0))), (1, .ref (ad (0))), (0, .ref b)])
    (kk : ∀ (H : Heap) (locs : List Loc) (ls : Array Slot) (fo : Nat → Int64), LWx s H locs dC dI cA ad am qo Mc ((f_X6_error Mm).2) fo → WFm ((f_X6_error Mm).2) → lv_has ls 8 [(4, .int (nI (i))), (3, .ref qo), (2, .ref (am (0))), (1, .ref (ad (0))), (0, .ref b)] → W p l e room_1 s m #[Value.ref b] below meth c H locs (cells + 3) (slots + 18) Q (F0 m 880 ls [])) : W p l e room_1 s m #[Value.ref b] below meth c H locs cells slots Q (F0 m 283 ls []) := by
  obtain ⟨hx, hb, hml, hown, hts, hK, hKX, hNC, hfl, hX, hbl, hL, hI, hIm, hge, hgm, hgo, hap, hqc, hqm⟩ := C
  obtain ⟨hPc, hPm, hPo, hS⟩ := hW
  have hbA : ¬ (fun q : Nat => s.heap.size ≤ q) b := Nat.not_le.mpr hbl
  have hAm : ∀ q, adS 12 am q → s.heap.size ≤ q := fun q ⟨k, hk, e⟩ => e ▸ hgm k hk
  have hAc : ∀ q, adS 69 ad q → s.heap.size ≤ q := fun q ⟨k, hk, e⟩ => e ▸ hge k hk
  refine lv_aload_n hx hb dL_law_283 rfl (lv_at hl 3 rfl) ?_
  refine kVl hx hb hml hown hts hK hPc hS hAc (As := []) (rest := []) (c_X5_error l dC dI cA ad hI Mc) (mkV hts q_246 q_47 q_243 q_244 q_245 hyX5_error rfl rfl ⟨(Nat.le_of_ble_eq_true rfl), (Nat.le_of_ble_eq_true rfl)⟩) (w_recv hK hPc (k := 0) (by decide) lyC0 (q := (RX5, TX5, 10)) rfl) rfl hl.1 rfl (Nat.le_of_ble_eq_true rfl) dL_law_284 ⟨by show cells ≤ 633746; omega, by show slots ≤ 7194866; omega⟩ (fun r u H locs hw hPc hS _ hk => ?_)
  have hPm := wld_kept hPm (B := adS 69 ad) (fun k hk9 ⟨j, hj, e⟩ => hap j k hj hk9 e.symm) hk
  have hPo := outB_kept hPo (B := adS 69 ad) (fun ⟨j, hj, e⟩ => hqc j hj e) hk
  obtain ⟨Mc1, ec⟩ : ∃ z, z = u := ⟨_, rfl⟩
  rw [← ec] at hw hPc
  obtain ⟨a1, ea⟩ : ∃ z, z = r := ⟨_, rfl⟩
  rw [← ea] at hw
  refine w_eql ea.symm ?_
  obtain ⟨ha0, hz1⟩ := hw
  refine lv_pop2_2 hx hb dL_law_287 rfl ?_
  refine lv_aload_n hx hb dL_law_288 rfl (lv_at hl 2 rfl) ?_
  refine kVl hx hb hml hown hts hK hPm hS hAm (As := []) (rest := []) (c_X6_error l dC dI cA am hIm Mm  hwm) (mkV hts q_953 q_53 q_950 q_951 q_952 hyX6_error rfl rfl ⟨(Nat.le_of_ble_eq_true rfl), (Nat.le_of_ble_eq_true rfl)⟩) (w_recv hK hPm (k := 0) (by decide) lyM0 (q := (RX6, TX6, 26)) rfl) rfl hl.1 rfl (Nat.le_of_ble_eq_true rfl) dL_law_289 ⟨by show cells ≤ 633746; omega, by show slots ≤ 7194866; omega⟩ (fun r u H locs hw hPm hS _ hk => ?_)
  have hPc := wld_kept hPc (B := adS 12 am) (fun k hk9 ⟨j, hj, e⟩ => hap k j hk9 hj e) hk
  have hPo := outB_kept hPo (B := adS 12 am) (fun ⟨j, hj, e⟩ => hqm j hj e) hk
  obtain ⟨hw, hwm⟩ := hw
  obtain ⟨Mm1, em⟩ : ∃ z, z = u := ⟨_, rfl⟩
  rw [← em] at hw hwm hPm
  obtain ⟨b1, eb⟩ : ∃ z, z = r := ⟨_, rfl⟩
  rw [← eb] at hw
  refine w_eql eb.symm ?_
  have hMm := congrArg Prod.snd hw
  have hb0 := congrArg Prod.fst hw
  dsimp only at hMm hb0
  refine lv_pop2_2 hx hb dL_law_292 rfl ?_
  refine lv_goto (tgt := 880) hx hb dL_law_293 (by decide) ?_
  refine W.widen (k := cells + 3) (n := slots + 18) (by omega) (by omega) ?_
  rw [hz1] at hPc
  rw [hMm] at hPm hwm
  exact kk _ _ _ _ ⟨hPc, hPm, hPo, hS⟩ hwm (lv_sub hl [0, 1, 2, 3, 4] rfl)
set_option maxHeartbeats 4000000 in
set_option maxRecDepth 100000 in
theorem lc_6 {p : Program} {l : Launch} {e : Env} {s : State} {m : MethodId} {below : List Frame} {meth : Method} {c : Code} {b L : Nat} {xs : Nat → Int32} {dC : Nat → ClassId} {dI : Nat → Nat → Nat} {cA : Nat → ClassId} {ad am : Nat → Nat} {qo : Nat} (C : LCx p l s m c b L xs dC dI cA ad am qo) {Q : State → Prop} {cells slots i : Nat} (hi : i + 5 ≤ L) (hcc : cells + 3 ≤ 633746 ∧ slots + 18 ≤ 7194866) {Mc Mm : Mem} {fo : Nat → Int64} {H : Heap} {locs : List Loc} {ls : Array Slot} (hW : LWx s H locs dC dI cA ad am qo Mc Mm fo) (hwm : WFm Mm) (hl : lv_has ls 8 [(4, .int (nI (i))), (3, .ref qo), (2, .ref (am (0))), (1, .ref (ad (0))), (0, .ref b)])
    (kk : ∀ (H : Heap) (locs : List Loc) (ls : Array Slot) (fo : Nat → Int64), LWx s H locs dC dI cA ad am qo Mc ((f_X6_pendingSlew Mm).2) fo → WFm ((f_X6_pendingSlew Mm).2) → lv_has ls 8 [(4, .int (nI (i))), (3, .ref qo), (2, .ref (am (0))), (1, .ref (ad (0))), (0, .ref b)] → W p l e room_1 s m #[Value.ref b] below meth c H locs (cells + 3) (slots + 18) Q (F0 m 880 ls [])) : W p l e room_1 s m #[Value.ref b] below meth c H locs cells slots Q (F0 m 296 ls []) := by
  obtain ⟨hx, hb, hml, hown, hts, hK, hKX, hNC, hfl, hX, hbl, hL, hI, hIm, hge, hgm, hgo, hap, hqc, hqm⟩ := C
  obtain ⟨hPc, hPm, hPo, hS⟩ := hW
  have hbA : ¬ (fun q : Nat => s.heap.size ≤ q) b := Nat.not_le.mpr hbl
  have hAm : ∀ q, adS 12 am q → s.heap.size ≤ q := fun q ⟨k, hk, e⟩ => e ▸ hgm k hk
  have hAc : ∀ q, adS 69 ad q → s.heap.size ≤ q := fun q ⟨k, hk, e⟩ => e ▸ hge k hk
  refine lv_aload_n hx hb dL_law_296 rfl (lv_at hl 3 rfl) ?_
  refine kVl hx hb hml hown hts hK hPc hS hAc (As := []) (rest := []) (c_X5_pendingSlew l dC dI cA ad hI Mc) (mkV hts q_250 q_47 q_247 q_248 q_249 hyX5_pendingSlew rfl rfl ⟨(Nat.le_of_ble_eq_true rfl), (Nat.le_of_ble_eq_true rfl)⟩) (w_recv hK hPc (k := 0) (by decide) lyC0 (q := (RX5, TX5, 10)) rfl) rfl hl.1 rfl (Nat.le_of_ble_eq_true rfl) dL_law_297 ⟨by show cells ≤ 633746; omega, by show slots ≤ 7194866; omega⟩ (fun r u H locs hw hPc hS _ hk => ?_)
  have hPm := wld_kept hPm (B := adS 69 ad) (fun k hk9 ⟨j, hj, e⟩ => hap j k hj hk9 e.symm) hk
  have hPo := outB_kept hPo (B := adS 69 ad) (fun ⟨j, hj, e⟩ => hqc j hj e) hk
  obtain ⟨Mc1, ec⟩ : ∃ z, z = u := ⟨_, rfl⟩
  rw [← ec] at hw hPc
  obtain ⟨a1, ea⟩ : ∃ z, z = r := ⟨_, rfl⟩
  rw [← ea] at hw
  refine w_eql ea.symm ?_
  obtain ⟨ha0, hz1⟩ := hw
  refine lv_pop2_2 hx hb dL_law_300 rfl ?_
  refine lv_aload_n hx hb dL_law_301 rfl (lv_at hl 2 rfl) ?_
  refine kVl hx hb hml hown hts hK hPm hS hAm (As := []) (rest := []) (c_X6_pendingSlew l dC dI cA am hIm Mm  hwm) (mkV hts q_957 q_53 q_954 q_955 q_956 hyX6_pendingSlew rfl rfl ⟨(Nat.le_of_ble_eq_true rfl), (Nat.le_of_ble_eq_true rfl)⟩) (w_recv hK hPm (k := 0) (by decide) lyM0 (q := (RX6, TX6, 26)) rfl) rfl hl.1 rfl (Nat.le_of_ble_eq_true rfl) dL_law_302 ⟨by show cells ≤ 633746; omega, by show slots ≤ 7194866; omega⟩ (fun r u H locs hw hPm hS _ hk => ?_)
  have hPc := wld_kept hPc (B := adS 12 am) (fun k hk9 ⟨j, hj, e⟩ => hap k j hk9 hj e) hk
  have hPo := outB_kept hPo (B := adS 12 am) (fun ⟨j, hj, e⟩ => hqm j hj e) hk
  obtain ⟨hw, hwm⟩ := hw
  obtain ⟨Mm1, em⟩ : ∃ z, z = u := ⟨_, rfl⟩
  rw [← em] at hw hwm hPm
  obtain ⟨b1, eb⟩ : ∃ z, z = r := ⟨_, rfl⟩
  rw [← eb] at hw
  refine w_eql eb.symm ?_
  have hMm := congrArg Prod.snd hw
  have hb0 := congrArg Prod.fst hw
  dsimp only at hMm hb0
  refine lv_pop2_2 hx hb dL_law_305 rfl ?_
  refine lv_goto (tgt := 880) hx hb dL_law_306 (by decide) ?_
  refine W.widen (k := cells + 3) (n := slots + 18) (by omega) (by omega) ?_
  rw [hz1] at hPc
  rw [hMm] at hPm hwm
  exact kk _ _ _ _ ⟨hPc, hPm, hPo, hS⟩ hwm (lv_sub hl [0, 1, 2, 3, 4] rfl)
set_option maxHeartbeats 4000000 in
set_option maxRecDepth 100000 in
theorem lc_7 {p : Program} {l : Launch} {e : Env} {s : State} {m : MethodId} {below : List Frame} {meth : Method} {c : Code} {b L : Nat} {xs : Nat → Int32} {dC : Nat → ClassId} {dI : Nat → Nat → Nat} {cA : Nat → ClassId} {ad am : Nat → Nat} {qo : Nat} (C : LCx p l s m c b L xs dC dI cA ad am qo) {Q : State → Prop} {cells slots i : Nat} (hi : i + 5 ≤ L) (hcc : cells + 3 ≤ 633746 ∧ slots + 18 ≤ 7194866) {Mc Mm : Mem} {fo : Nat → Int64} {H : Heap} {locs : List Loc} {ls : Array Slot} (hW : LWx s H locs dC dI cA ad am qo Mc Mm fo) (hwm : WFm Mm) (hl : lv_has ls 8 [(4, .int (nI (i))), (3, .ref qo), (2, .ref (am (0))), (1, .ref (ad (0))), (0, .ref b)])
    (kk : ∀ (H : Heap) (locs : List Loc) (ls : Array Slot) (fo : Nat → Int64), LWx s H locs dC dI cA ad am qo Mc ((f_X6_correction Mm).2) fo → WFm ((f_X6_correction Mm).2) → lv_has ls 8 [(4, .int (nI (i))), (3, .ref qo), (2, .ref (am (0))), (1, .ref (ad (0))), (0, .ref b)] → W p l e room_1 s m #[Value.ref b] below meth c H locs (cells + 3) (slots + 18) Q (F0 m 880 ls [])) : W p l e room_1 s m #[Value.ref b] below meth c H locs cells slots Q (F0 m 309 ls []) := by
  obtain ⟨hx, hb, hml, hown, hts, hK, hKX, hNC, hfl, hX, hbl, hL, hI, hIm, hge, hgm, hgo, hap, hqc, hqm⟩ := C
  obtain ⟨hPc, hPm, hPo, hS⟩ := hW
  have hbA : ¬ (fun q : Nat => s.heap.size ≤ q) b := Nat.not_le.mpr hbl
  have hAm : ∀ q, adS 12 am q → s.heap.size ≤ q := fun q ⟨k, hk, e⟩ => e ▸ hgm k hk
  have hAc : ∀ q, adS 69 ad q → s.heap.size ≤ q := fun q ⟨k, hk, e⟩ => e ▸ hge k hk
  refine lv_aload_n hx hb dL_law_309 rfl (lv_at hl 3 rfl) ?_
  refine kVi hx hb hml hown hts hK hPc hS hAc (As := []) (rest := []) (c_X5_correction l dC dI cA ad hI Mc) (mkV hts q_258 q_47 q_255 q_256 q_257 hyX5_correction rfl rfl ⟨(Nat.le_of_ble_eq_true rfl), (Nat.le_of_ble_eq_true rfl)⟩) (w_recv hK hPc (k := 0) (by decide) lyC0 (q := (RX5, TX5, 10)) rfl) rfl hl.1 rfl (Nat.le_of_ble_eq_true rfl) dL_law_310 ⟨by show cells ≤ 633746; omega, by show slots ≤ 7194866; omega⟩ (fun r u H locs hw hPc hS _ hk => ?_)
  have hPm := wld_kept hPm (B := adS 69 ad) (fun k hk9 ⟨j, hj, e⟩ => hap j k hj hk9 e.symm) hk
  have hPo := outB_kept hPo (B := adS 69 ad) (fun ⟨j, hj, e⟩ => hqc j hj e) hk
  obtain ⟨Mc1, ec⟩ : ∃ z, z = u := ⟨_, rfl⟩
  rw [← ec] at hw hPc
  obtain ⟨a1, ea⟩ : ∃ z, z = r := ⟨_, rfl⟩
  rw [← ea] at hw
  refine w_eqi ea.symm ?_
  obtain ⟨ha0, hz1⟩ := hw
  refine lv_pop hx hb dL_law_313 rfl ?_
  refine lv_aload_n hx hb dL_law_314 rfl (lv_at hl 2 rfl) ?_
  refine kVi hx hb hml hown hts hK hPm hS hAm (As := []) (rest := []) (c_X6_correction l dC dI cA am hIm Mm  hwm) (mkV hts q_961 q_53 q_958 q_959 q_960 hyX6_correction rfl rfl ⟨(Nat.le_of_ble_eq_true rfl), (Nat.le_of_ble_eq_true rfl)⟩) (w_recv hK hPm (k := 0) (by decide) lyM0 (q := (RX6, TX6, 26)) rfl) rfl hl.1 rfl (Nat.le_of_ble_eq_true rfl) dL_law_315 ⟨by show cells ≤ 633746; omega, by show slots ≤ 7194866; omega⟩ (fun r u H locs hw hPm hS _ hk => ?_)
  have hPc := wld_kept hPc (B := adS 12 am) (fun k hk9 ⟨j, hj, e⟩ => hap k j hk9 hj e) hk
  have hPo := outB_kept hPo (B := adS 12 am) (fun ⟨j, hj, e⟩ => hqm j hj e) hk
  obtain ⟨hw, hwm⟩ := hw
  obtain ⟨Mm1, em⟩ : ∃ z, z = u := ⟨_, rfl⟩
  rw [← em] at hw hwm hPm
  obtain ⟨b1, eb⟩ : ∃ z, z = r := ⟨_, rfl⟩
  rw [← eb] at hw
  refine w_eqi eb.symm ?_
  have hMm := congrArg Prod.snd hw
  have hb0 := congrArg Prod.fst hw
  dsimp only at hMm hb0
  refine lv_pop hx hb dL_law_318 rfl ?_
  refine lv_goto (tgt := 880) hx hb dL_law_319 (by decide) ?_
  refine W.widen (k := cells + 3) (n := slots + 18) (by omega) (by omega) ?_
  rw [hz1] at hPc
  rw [hMm] at hPm hwm
  exact kk _ _ _ _ ⟨hPc, hPm, hPo, hS⟩ hwm (lv_sub hl [0, 1, 2, 3, 4] rfl)
set_option maxHeartbeats 4000000 in
set_option maxRecDepth 100000 in
theorem lc_8 {p : Program} {l : Launch} {e : Env} {s : State} {m : MethodId} {below : List Frame} {meth : Method} {c : Code} {b L : Nat} {xs : Nat → Int32} {dC : Nat → ClassId} {dI : Nat → Nat → Nat} {cA : Nat → ClassId} {ad am : Nat → Nat} {qo : Nat} (C : LCx p l s m c b L xs dC dI cA ad am qo) {Q : State → Prop} {cells slots i : Nat} (hi : i + 5 ≤ L) (hcc : cells + 3 ≤ 633746 ∧ slots + 18 ≤ 7194866) {Mc Mm : Mem} {fo : Nat → Int64} {H : Heap} {locs : List Loc} {ls : Array Slot} (hW : LWx s H locs dC dI cA ad am qo Mc Mm fo) (hwm : WFm Mm) (hl : lv_has ls 8 [(4, .int (nI (i))), (3, .ref qo), (2, .ref (am (0))), (1, .ref (ad (0))), (0, .ref b)])
    (kk : ∀ (H : Heap) (locs : List Loc) (ls : Array Slot) (fo : Nat → Int64), LWx s H locs dC dI cA ad am qo ((f_X5_announceLeap Mc (xs (i + 1)) (if xs (i + 2) = 0 then 0 else 1)).2.2) ((f_X6_announceLeap Mm (xs (i + 1)) (if xs (i + 2) = 0 then 0 else 1)).2) fo → WFm ((f_X6_announceLeap Mm (xs (i + 1)) (if xs (i + 2) = 0 then 0 else 1)).2) → lv_has ls 8 [(4, .int (nI (i))), (3, .ref qo), (2, .ref (am (0))), (1, .ref (ad (0))), (0, .ref b)] → W p l e room_1 s m #[Value.ref b] below meth c H locs (cells + 3) (slots + 18) Q (F0 m 880 ls [])) : W p l e room_1 s m #[Value.ref b] below meth c H locs cells slots Q (F0 m 322 ls []) := by
  obtain ⟨hx, hb, hml, hown, hts, hK, hKX, hNC, hfl, hX, hbl, hL, hI, hIm, hge, hgm, hgo, hap, hqc, hqm⟩ := C
  obtain ⟨hPc, hPm, hPo, hS⟩ := hW
  have hbA : ¬ (fun q : Nat => s.heap.size ≤ q) b := Nat.not_le.mpr hbl
  have hAm : ∀ q, adS 12 am q → s.heap.size ≤ q := fun q ⟨k, hk, e⟩ => e ▸ hgm k hk
  have hAc : ∀ q, adS 69 ad q → s.heap.size ≤ q := fun q ⟨k, hk, e⟩ => e ▸ hge k hk
  refine lv_aload_n hx hb dL_law_322 rfl (lv_at hl 3 rfl) ?_
  refine lv_aload_n hx hb dL_law_323 rfl (lv_at hl 4 rfl) ?_
  refine lv_iload hx hb dL_law_324 (lv_at hl 0 rfl) ?_
  refine lv_iconst (v := 1) hx hb dL_law_326 (by decide) ?_
  refine lv_iadd hx hb dL_law_327 ?_
  refine w_eqi (y := nI (i + 1)) (nI_add i 1) ?_
  refine va_sld hx hb hX hbl hbA hS (vp_in_nI (n := i + 1) (by omega) (by omega)) dL_law_328 ?_
  rw [nI_clamp (n := i + 1) (by omega)]
  refine lv_aload_n hx hb dL_law_329 rfl (lv_at hl 4 rfl) ?_
  refine lv_iload hx hb dL_law_330 (lv_at hl 0 rfl) ?_
  refine lv_iconst (v := 2) hx hb dL_law_332 (by decide) ?_
  refine lv_iadd hx hb dL_law_333 ?_
  refine w_eqi (y := nI (i + 2)) (nI_add i 2) ?_
  refine va_sld hx hb hX hbl hbA hS (vp_in_nI (n := i + 2) (by omega) (by omega)) dL_law_334 ?_
  rw [nI_clamp (n := i + 2) (by omega)]
  refine w_b01 hx hb dL_law_335 dL_law_338 dL_law_339 dL_law_342 ?_
  refine lv_aload_n hx hb dL_law_343 rfl (lv_at hl 1 rfl) ?_
  refine kW hx hb hml hown hts hK hPc hPo hS hKX hNC hge hgo (As := [.ref (ad (0)), .int (xs (i + 1)), .int (if xs (i + 2) = 0 then 0 else 1), .ref qo]) (rest := []) (c_L_announceLeap l hfl dC dI cA ad hI qo hqc Mc fo (xs (i + 1)) (if xs (i + 2) = 0 then 0 else 1)) (mkSW hts q_580 q_46 q_578 q_579 hyL_announceLeap rfl rfl ⟨(Nat.le_of_ble_eq_true rfl), (Nat.le_of_ble_eq_true rfl)⟩) rfl hl.1 rfl (Nat.le_of_ble_eq_true rfl) dL_law_344 ⟨by show cells + 1 ≤ 633746; omega, by show slots + 6 ≤ 7194866; omega⟩ (fun r z H locs hw hPc hPo hS _ hk => ?_)
  obtain ⟨Mc1, fo1⟩ := z
  obtain ⟨r0, er⟩ : ∃ z, z = r := ⟨_, rfl⟩
  rw [← er] at hw
  refine w_eqi er.symm ?_
  obtain ⟨hr, hz1, hv1⟩ := hw
  dsimp only at hz1 hv1 hPc hPo
  have hPm := wld_kept hPm (B := adW ad qo) (fun k hk9 h => h.elim (fun ⟨j, hj, e⟩ => hap j k hj hk9 e.symm) (fun e => hqm k hk9 e.symm)) hk
  refine lv_istore (lv' := [(5, .int r0), (4, .int (nI (i))), (3, .ref qo), (2, .ref (am (0))), (1, .ref (ad (0))), (0, .ref b)]) hx hb dL_law_347 hl (by decide) rfl (fun ls hl => ?_)
  refine lv_aload_n hx hb dL_law_349 rfl (lv_at hl 3 rfl) ?_
  refine lv_aload_n hx hb dL_law_350 rfl (lv_at hl 5 rfl) ?_
  refine lv_iload hx hb dL_law_351 (lv_at hl 1 rfl) ?_
  refine lv_iconst (v := 1) hx hb dL_law_353 (by decide) ?_
  refine lv_iadd hx hb dL_law_354 ?_
  refine w_eqi (y := nI (i + 1)) (nI_add i 1) ?_
  refine va_sld hx hb hX hbl hbA hS (vp_in_nI (n := i + 1) (by omega) (by omega)) dL_law_355 ?_
  rw [nI_clamp (n := i + 1) (by omega)]
  refine lv_aload_n hx hb dL_law_356 rfl (lv_at hl 5 rfl) ?_
  refine lv_iload hx hb dL_law_357 (lv_at hl 1 rfl) ?_
  refine lv_iconst (v := 2) hx hb dL_law_359 (by decide) ?_
  refine lv_iadd hx hb dL_law_360 ?_
  refine w_eqi (y := nI (i + 2)) (nI_add i 2) ?_
  refine va_sld hx hb hX hbl hbA hS (vp_in_nI (n := i + 2) (by omega) (by omega)) dL_law_361 ?_
  rw [nI_clamp (n := i + 2) (by omega)]
  refine w_b01 hx hb dL_law_362 dL_law_365 dL_law_366 dL_law_369 ?_
  refine kVl hx hb hml hown hts hK hPm hS hAm (As := [.int (xs (i + 1)), .int (if xs (i + 2) = 0 then 0 else 1)]) (rest := []) (c_X6_announceLeap l dC dI cA am hIm Mm (xs (i + 1)) (if xs (i + 2) = 0 then 0 else 1) hwm) (mkV hts q_969 q_53 q_966 q_967 q_968 hyX6_announceLeap rfl rfl ⟨(Nat.le_of_ble_eq_true rfl), (Nat.le_of_ble_eq_true rfl)⟩) (w_recv hK hPm (k := 0) (by decide) lyM0 (q := (RX6, TX6, 26)) rfl) rfl hl.1 rfl (Nat.le_of_ble_eq_true rfl) dL_law_370 ⟨by show cells + 1 ≤ 633746; omega, by show slots + 6 ≤ 7194866; omega⟩ (fun r u H locs hw hPm hS _ hk => ?_)
  have hPc := wld_kept hPc (B := adS 12 am) (fun k hk9 ⟨j, hj, e⟩ => hap k j hk9 hj e) hk
  have hPo := outB_kept hPo (B := adS 12 am) (fun ⟨j, hj, e⟩ => hqm j hj e) hk
  obtain ⟨hw, hwm⟩ := hw
  obtain ⟨Mm1, em⟩ : ∃ z, z = u := ⟨_, rfl⟩
  rw [← em] at hw hwm hPm
  obtain ⟨b1, eb⟩ : ∃ z, z = r := ⟨_, rfl⟩
  rw [← eb] at hw
  refine w_eql eb.symm ?_
  have hMm := congrArg Prod.snd hw
  have hb0 := congrArg Prod.fst hw
  dsimp only at hMm hb0
  have hb1 := hb0.symm
  refine lv_lstore (lv' := [(6, .long b1), (5, .int r0), (4, .int (nI (i))), (3, .ref qo), (2, .ref (am (0))), (1, .ref (ad (0))), (0, .ref b)]) hx hb dL_law_373 hl (by decide) rfl (fun ls hl => ?_)
  refine lv_goto (tgt := 880) hx hb dL_law_375 (by decide) ?_
  refine W.widen (k := cells + 3) (n := slots + 18) (by omega) (by omega) ?_
  rw [hz1] at hPc
  rw [hMm] at hPm hwm
  exact kk _ _ _ _ ⟨hPc, hPm, hPo, hS⟩ hwm (lv_sub hl [2, 3, 4, 5, 6] rfl)
set_option maxHeartbeats 4000000 in
set_option maxRecDepth 100000 in
theorem lc_9 {p : Program} {l : Launch} {e : Env} {s : State} {m : MethodId} {below : List Frame} {meth : Method} {c : Code} {b L : Nat} {xs : Nat → Int32} {dC : Nat → ClassId} {dI : Nat → Nat → Nat} {cA : Nat → ClassId} {ad am : Nat → Nat} {qo : Nat} (C : LCx p l s m c b L xs dC dI cA ad am qo) {Q : State → Prop} {cells slots i : Nat} (hi : i + 5 ≤ L) (hcc : cells + 3 ≤ 633746 ∧ slots + 18 ≤ 7194866) {Mc Mm : Mem} {fo : Nat → Int64} {H : Heap} {locs : List Loc} {ls : Array Slot} (hW : LWx s H locs dC dI cA ad am qo Mc Mm fo) (hwm : WFm Mm) (hl : lv_has ls 8 [(4, .int (nI (i))), (3, .ref qo), (2, .ref (am (0))), (1, .ref (ad (0))), (0, .ref b)])
    (kk : ∀ (H : Heap) (locs : List Loc) (ls : Array Slot) (fo : Nat → Int64), LWx s H locs dC dI cA ad am qo Mc ((f_X6_civil Mm).2) fo → WFm ((f_X6_civil Mm).2) → lv_has ls 8 [(4, .int (nI (i))), (3, .ref qo), (2, .ref (am (0))), (1, .ref (ad (0))), (0, .ref b)] → W p l e room_1 s m #[Value.ref b] below meth c H locs (cells + 3) (slots + 18) Q (F0 m 880 ls [])) : W p l e room_1 s m #[Value.ref b] below meth c H locs cells slots Q (F0 m 378 ls []) := by
  obtain ⟨hx, hb, hml, hown, hts, hK, hKX, hNC, hfl, hX, hbl, hL, hI, hIm, hge, hgm, hgo, hap, hqc, hqm⟩ := C
  obtain ⟨hPc, hPm, hPo, hS⟩ := hW
  have hbA : ¬ (fun q : Nat => s.heap.size ≤ q) b := Nat.not_le.mpr hbl
  have hAm : ∀ q, adS 12 am q → s.heap.size ≤ q := fun q ⟨k, hk, e⟩ => e ▸ hgm k hk
  have hAc : ∀ q, adS 69 ad q → s.heap.size ≤ q := fun q ⟨k, hk, e⟩ => e ▸ hge k hk
  refine lv_aload_n hx hb dL_law_378 rfl (lv_at hl 3 rfl) ?_
  refine kVl hx hb hml hown hts hK hPc hS hAc (As := []) (rest := []) (c_X5_civil l dC dI cA ad hI Mc) (mkV hts q_266 q_47 q_263 q_264 q_265 hyX5_civil rfl rfl ⟨(Nat.le_of_ble_eq_true rfl), (Nat.le_of_ble_eq_true rfl)⟩) (w_recv hK hPc (k := 0) (by decide) lyC0 (q := (RX5, TX5, 10)) rfl) rfl hl.1 rfl (Nat.le_of_ble_eq_true rfl) dL_law_379 ⟨by show cells ≤ 633746; omega, by show slots ≤ 7194866; omega⟩ (fun r u H locs hw hPc hS _ hk => ?_)
  have hPm := wld_kept hPm (B := adS 69 ad) (fun k hk9 ⟨j, hj, e⟩ => hap j k hj hk9 e.symm) hk
  have hPo := outB_kept hPo (B := adS 69 ad) (fun ⟨j, hj, e⟩ => hqc j hj e) hk
  obtain ⟨Mc1, ec⟩ : ∃ z, z = u := ⟨_, rfl⟩
  rw [← ec] at hw hPc
  obtain ⟨a1, ea⟩ : ∃ z, z = r := ⟨_, rfl⟩
  rw [← ea] at hw
  refine w_eql ea.symm ?_
  obtain ⟨ha0, hz1⟩ := hw
  refine lv_pop2_2 hx hb dL_law_382 rfl ?_
  refine lv_aload_n hx hb dL_law_383 rfl (lv_at hl 2 rfl) ?_
  refine kVl hx hb hml hown hts hK hPm hS hAm (As := []) (rest := []) (c_X6_civil l dC dI cA am hIm Mm  hwm) (mkV hts q_979 q_53 q_976 q_977 q_978 hyX6_civil rfl rfl ⟨(Nat.le_of_ble_eq_true rfl), (Nat.le_of_ble_eq_true rfl)⟩) (w_recv hK hPm (k := 0) (by decide) lyM0 (q := (RX6, TX6, 26)) rfl) rfl hl.1 rfl (Nat.le_of_ble_eq_true rfl) dL_law_384 ⟨by show cells ≤ 633746; omega, by show slots ≤ 7194866; omega⟩ (fun r u H locs hw hPm hS _ hk => ?_)
  have hPc := wld_kept hPc (B := adS 12 am) (fun k hk9 ⟨j, hj, e⟩ => hap k j hk9 hj e) hk
  have hPo := outB_kept hPo (B := adS 12 am) (fun ⟨j, hj, e⟩ => hqm j hj e) hk
  obtain ⟨hw, hwm⟩ := hw
  obtain ⟨Mm1, em⟩ : ∃ z, z = u := ⟨_, rfl⟩
  rw [← em] at hw hwm hPm
  obtain ⟨b1, eb⟩ : ∃ z, z = r := ⟨_, rfl⟩
  rw [← eb] at hw
  refine w_eql eb.symm ?_
  have hMm := congrArg Prod.snd hw
  have hb0 := congrArg Prod.fst hw
  dsimp only at hMm hb0
  refine lv_pop2_2 hx hb dL_law_387 rfl ?_
  refine lv_goto (tgt := 880) hx hb dL_law_388 (by decide) ?_
  refine W.widen (k := cells + 3) (n := slots + 18) (by omega) (by omega) ?_
  rw [hz1] at hPc
  rw [hMm] at hPm hwm
  exact kk _ _ _ _ ⟨hPc, hPm, hPo, hS⟩ hwm (lv_sub hl [0, 1, 2, 3, 4] rfl)
set_option maxHeartbeats 4000000 in
set_option maxRecDepth 100000 in
theorem lc_10 {p : Program} {l : Launch} {e : Env} {s : State} {m : MethodId} {below : List Frame} {meth : Method} {c : Code} {b L : Nat} {xs : Nat → Int32} {dC : Nat → ClassId} {dI : Nat → Nat → Nat} {cA : Nat → ClassId} {ad am : Nat → Nat} {qo : Nat} (C : LCx p l s m c b L xs dC dI cA ad am qo) {Q : State → Prop} {cells slots i : Nat} (hi : i + 5 ≤ L) (hcc : cells + 3 ≤ 633746 ∧ slots + 18 ≤ 7194866) {Mc Mm : Mem} {fo : Nat → Int64} {H : Heap} {locs : List Loc} {ls : Array Slot} (hW : LWx s H locs dC dI cA ad am qo Mc Mm fo) (hwm : WFm Mm) (hl : lv_has ls 8 [(4, .int (nI (i))), (3, .ref qo), (2, .ref (am (0))), (1, .ref (ad (0))), (0, .ref b)])
    (kk : ∀ (H : Heap) (locs : List Loc) (ls : Array Slot) (fo : Nat → Int64), LWx s H locs dC dI cA ad am qo ((f_X5_addServer Mc (xs (i + 1)) (xs (i + 2)) (xs (i + 3)) (xs (i + 4))).2.2) ((f_X6_addServer Mm (xs (i + 1)) (xs (i + 2)) (xs (i + 3)) (xs (i + 4))).2) fo → WFm ((f_X6_addServer Mm (xs (i + 1)) (xs (i + 2)) (xs (i + 3)) (xs (i + 4))).2) → lv_has ls 8 [(4, .int (nI (i))), (3, .ref qo), (2, .ref (am (0))), (1, .ref (ad (0))), (0, .ref b)] → W p l e room_1 s m #[Value.ref b] below meth c H locs (cells + 3) (slots + 18) Q (F0 m 880 ls [])) : W p l e room_1 s m #[Value.ref b] below meth c H locs cells slots Q (F0 m 391 ls []) := by
  obtain ⟨hx, hb, hml, hown, hts, hK, hKX, hNC, hfl, hX, hbl, hL, hI, hIm, hge, hgm, hgo, hap, hqc, hqm⟩ := C
  obtain ⟨hPc, hPm, hPo, hS⟩ := hW
  have hbA : ¬ (fun q : Nat => s.heap.size ≤ q) b := Nat.not_le.mpr hbl
  have hAm : ∀ q, adS 12 am q → s.heap.size ≤ q := fun q ⟨k, hk, e⟩ => e ▸ hgm k hk
  have hAc : ∀ q, adS 69 ad q → s.heap.size ≤ q := fun q ⟨k, hk, e⟩ => e ▸ hge k hk
  refine lv_aload_n hx hb dL_law_391 rfl (lv_at hl 3 rfl) ?_
  refine lv_aload_n hx hb dL_law_392 rfl (lv_at hl 4 rfl) ?_
  refine lv_iload hx hb dL_law_393 (lv_at hl 0 rfl) ?_
  refine lv_iconst (v := 1) hx hb dL_law_395 (by decide) ?_
  refine lv_iadd hx hb dL_law_396 ?_
  refine w_eqi (y := nI (i + 1)) (nI_add i 1) ?_
  refine va_sld hx hb hX hbl hbA hS (vp_in_nI (n := i + 1) (by omega) (by omega)) dL_law_397 ?_
  rw [nI_clamp (n := i + 1) (by omega)]
  refine lv_aload_n hx hb dL_law_398 rfl (lv_at hl 4 rfl) ?_
  refine lv_iload hx hb dL_law_399 (lv_at hl 0 rfl) ?_
  refine lv_iconst (v := 2) hx hb dL_law_401 (by decide) ?_
  refine lv_iadd hx hb dL_law_402 ?_
  refine w_eqi (y := nI (i + 2)) (nI_add i 2) ?_
  refine va_sld hx hb hX hbl hbA hS (vp_in_nI (n := i + 2) (by omega) (by omega)) dL_law_403 ?_
  rw [nI_clamp (n := i + 2) (by omega)]
  refine lv_aload_n hx hb dL_law_404 rfl (lv_at hl 4 rfl) ?_
  refine lv_iload hx hb dL_law_405 (lv_at hl 0 rfl) ?_
  refine lv_iconst (v := 3) hx hb dL_law_407 (by decide) ?_
  refine lv_iadd hx hb dL_law_408 ?_
  refine w_eqi (y := nI (i + 3)) (nI_add i 3) ?_
  refine va_sld hx hb hX hbl hbA hS (vp_in_nI (n := i + 3) (by omega) (by omega)) dL_law_409 ?_
  rw [nI_clamp (n := i + 3) (by omega)]
  refine lv_aload_n hx hb dL_law_410 rfl (lv_at hl 4 rfl) ?_
  refine lv_iload hx hb dL_law_411 (lv_at hl 0 rfl) ?_
  refine lv_iconst (v := 4) hx hb dL_law_413 (by decide) ?_
  refine lv_iadd hx hb dL_law_414 ?_
  refine w_eqi (y := nI (i + 4)) (nI_add i 4) ?_
  refine va_sld hx hb hX hbl hbA hS (vp_in_nI (n := i + 4) (by omega) (by omega)) dL_law_415 ?_
  rw [nI_clamp (n := i + 4) (by omega)]
  refine lv_aload_n hx hb dL_law_416 rfl (lv_at hl 1 rfl) ?_
  refine kW hx hb hml hown hts hK hPc hPo hS hKX hNC hge hgo (As := [.ref (ad (0)), .int (xs (i + 1)), .int (xs (i + 2)), .int (xs (i + 3)), .int (xs (i + 4)), .ref qo]) (rest := []) (c_L_addServer l hfl dC dI cA ad hI qo hqc Mc fo (xs (i + 1)) (xs (i + 2)) (xs (i + 3)) (xs (i + 4))) (mkSW hts q_596 q_46 q_594 q_595 hyL_addServer rfl rfl ⟨(Nat.le_of_ble_eq_true rfl), (Nat.le_of_ble_eq_true rfl)⟩) rfl hl.1 rfl (Nat.le_of_ble_eq_true rfl) dL_law_417 ⟨by show cells + 1 ≤ 633746; omega, by show slots + 6 ≤ 7194866; omega⟩ (fun r z H locs hw hPc hPo hS _ hk => ?_)
  obtain ⟨Mc1, fo1⟩ := z
  obtain ⟨r0, er⟩ : ∃ z, z = r := ⟨_, rfl⟩
  rw [← er] at hw
  refine w_eqi er.symm ?_
  obtain ⟨hr, hz1, hv1⟩ := WPn_int hw
  dsimp only at hz1 hv1 hPc hPo
  have hPm := wld_kept hPm (B := adW ad qo) (fun k hk9 h => h.elim (fun ⟨j, hj, e⟩ => hap j k hj hk9 e.symm) (fun e => hqm k hk9 e.symm)) hk
  refine lv_istore (lv' := [(5, .int r0), (4, .int (nI (i))), (3, .ref qo), (2, .ref (am (0))), (1, .ref (ad (0))), (0, .ref b)]) hx hb dL_law_420 hl (by decide) rfl (fun ls hl => ?_)
  refine lv_aload_n hx hb dL_law_422 rfl (lv_at hl 3 rfl) ?_
  refine lv_aload_n hx hb dL_law_423 rfl (lv_at hl 5 rfl) ?_
  refine lv_iload hx hb dL_law_424 (lv_at hl 1 rfl) ?_
  refine lv_iconst (v := 1) hx hb dL_law_426 (by decide) ?_
  refine lv_iadd hx hb dL_law_427 ?_
  refine w_eqi (y := nI (i + 1)) (nI_add i 1) ?_
  refine va_sld hx hb hX hbl hbA hS (vp_in_nI (n := i + 1) (by omega) (by omega)) dL_law_428 ?_
  rw [nI_clamp (n := i + 1) (by omega)]
  refine lv_aload_n hx hb dL_law_429 rfl (lv_at hl 5 rfl) ?_
  refine lv_iload hx hb dL_law_430 (lv_at hl 1 rfl) ?_
  refine lv_iconst (v := 2) hx hb dL_law_432 (by decide) ?_
  refine lv_iadd hx hb dL_law_433 ?_
  refine w_eqi (y := nI (i + 2)) (nI_add i 2) ?_
  refine va_sld hx hb hX hbl hbA hS (vp_in_nI (n := i + 2) (by omega) (by omega)) dL_law_434 ?_
  rw [nI_clamp (n := i + 2) (by omega)]
  refine lv_aload_n hx hb dL_law_435 rfl (lv_at hl 5 rfl) ?_
  refine lv_iload hx hb dL_law_436 (lv_at hl 1 rfl) ?_
  refine lv_iconst (v := 3) hx hb dL_law_438 (by decide) ?_
  refine lv_iadd hx hb dL_law_439 ?_
  refine w_eqi (y := nI (i + 3)) (nI_add i 3) ?_
  refine va_sld hx hb hX hbl hbA hS (vp_in_nI (n := i + 3) (by omega) (by omega)) dL_law_440 ?_
  rw [nI_clamp (n := i + 3) (by omega)]
  refine lv_aload_n hx hb dL_law_441 rfl (lv_at hl 5 rfl) ?_
  refine lv_iload hx hb dL_law_442 (lv_at hl 1 rfl) ?_
  refine lv_iconst (v := 4) hx hb dL_law_444 (by decide) ?_
  refine lv_iadd hx hb dL_law_445 ?_
  refine w_eqi (y := nI (i + 4)) (nI_add i 4) ?_
  refine va_sld hx hb hX hbl hbA hS (vp_in_nI (n := i + 4) (by omega) (by omega)) dL_law_446 ?_
  rw [nI_clamp (n := i + 4) (by omega)]
  refine kVi hx hb hml hown hts hK hPm hS hAm (As := [.int (xs (i + 1)), .int (xs (i + 2)), .int (xs (i + 3)), .int (xs (i + 4))]) (rest := []) (c_X6_addServer l dC dI cA am hIm Mm (xs (i + 1)) (xs (i + 2)) (xs (i + 3)) (xs (i + 4)) hwm) (mkV hts q_984 q_53 q_981 q_982 q_983 hyX6_addServer rfl rfl ⟨(Nat.le_of_ble_eq_true rfl), (Nat.le_of_ble_eq_true rfl)⟩) (w_recv hK hPm (k := 0) (by decide) lyM0 (q := (RX6, TX6, 26)) rfl) rfl hl.1 rfl (Nat.le_of_ble_eq_true rfl) dL_law_447 ⟨by show cells + 1 ≤ 633746; omega, by show slots + 6 ≤ 7194866; omega⟩ (fun r u H locs hw hPm hS _ hk => ?_)
  have hPc := wld_kept hPc (B := adS 12 am) (fun k hk9 ⟨j, hj, e⟩ => hap k j hk9 hj e) hk
  have hPo := outB_kept hPo (B := adS 12 am) (fun ⟨j, hj, e⟩ => hqm j hj e) hk
  obtain ⟨hw, hwm⟩ := hw
  obtain ⟨Mm1, em⟩ : ∃ z, z = u := ⟨_, rfl⟩
  rw [← em] at hw hwm hPm
  obtain ⟨b1, eb⟩ : ∃ z, z = r := ⟨_, rfl⟩
  rw [← eb] at hw
  refine w_eqi eb.symm ?_
  have hMm := congrArg Prod.snd hw
  have hb0 := congrArg Prod.fst hw
  dsimp only at hMm hb0
  have hb1 := (congrArg Int32.toInt64 hb0).symm
  refine lv_istore (lv' := [(6, .int b1), (5, .int r0), (4, .int (nI (i))), (3, .ref qo), (2, .ref (am (0))), (1, .ref (ad (0))), (0, .ref b)]) hx hb dL_law_450 hl (by decide) rfl (fun ls hl => ?_)
  refine lv_goto (tgt := 880) hx hb dL_law_452 (by decide) ?_
  refine W.widen (k := cells + 3) (n := slots + 18) (by omega) (by omega) ?_
  rw [hz1] at hPc
  rw [hMm] at hPm hwm
  exact kk _ _ _ _ ⟨hPc, hPm, hPo, hS⟩ hwm (lv_sub hl [2, 3, 4, 5, 6] rfl)
set_option maxHeartbeats 4000000 in
set_option maxRecDepth 100000 in
theorem lc_11 {p : Program} {l : Launch} {e : Env} {s : State} {m : MethodId} {below : List Frame} {meth : Method} {c : Code} {b L : Nat} {xs : Nat → Int32} {dC : Nat → ClassId} {dI : Nat → Nat → Nat} {cA : Nat → ClassId} {ad am : Nat → Nat} {qo : Nat} (C : LCx p l s m c b L xs dC dI cA ad am qo) {Q : State → Prop} {cells slots i : Nat} (hi : i + 5 ≤ L) (hcc : cells + 3 ≤ 633746 ∧ slots + 18 ≤ 7194866) {Mc Mm : Mem} {fo : Nat → Int64} {H : Heap} {locs : List Loc} {ls : Array Slot} (hW : LWx s H locs dC dI cA ad am qo Mc Mm fo) (hwm : WFm Mm) (hl : lv_has ls 8 [(4, .int (nI (i))), (3, .ref qo), (2, .ref (am (0))), (1, .ref (ad (0))), (0, .ref b)])
    (kk : ∀ (H : Heap) (locs : List Loc) (ls : Array Slot) (fo : Nat → Int64), LWx s H locs dC dI cA ad am qo ((f_X5_setError Mc (xs (i + 1)) (xs (i + 2))).2.2) ((f_X6_setError Mm (xs (i + 1)) (xs (i + 2))).2) fo → WFm ((f_X6_setError Mm (xs (i + 1)) (xs (i + 2))).2) → lv_has ls 8 [(4, .int (nI (i))), (3, .ref qo), (2, .ref (am (0))), (1, .ref (ad (0))), (0, .ref b)] → W p l e room_1 s m #[Value.ref b] below meth c H locs (cells + 3) (slots + 18) Q (F0 m 880 ls [])) : W p l e room_1 s m #[Value.ref b] below meth c H locs cells slots Q (F0 m 455 ls []) := by
  obtain ⟨hx, hb, hml, hown, hts, hK, hKX, hNC, hfl, hX, hbl, hL, hI, hIm, hge, hgm, hgo, hap, hqc, hqm⟩ := C
  obtain ⟨hPc, hPm, hPo, hS⟩ := hW
  have hbA : ¬ (fun q : Nat => s.heap.size ≤ q) b := Nat.not_le.mpr hbl
  have hAm : ∀ q, adS 12 am q → s.heap.size ≤ q := fun q ⟨k, hk, e⟩ => e ▸ hgm k hk
  have hAc : ∀ q, adS 69 ad q → s.heap.size ≤ q := fun q ⟨k, hk, e⟩ => e ▸ hge k hk
  refine lv_aload_n hx hb dL_law_455 rfl (lv_at hl 3 rfl) ?_
  refine lv_aload_n hx hb dL_law_456 rfl (lv_at hl 4 rfl) ?_
  refine lv_iload hx hb dL_law_457 (lv_at hl 0 rfl) ?_
  refine lv_iconst (v := 1) hx hb dL_law_459 (by decide) ?_
  refine lv_iadd hx hb dL_law_460 ?_
  refine w_eqi (y := nI (i + 1)) (nI_add i 1) ?_
  refine va_sld hx hb hX hbl hbA hS (vp_in_nI (n := i + 1) (by omega) (by omega)) dL_law_461 ?_
  rw [nI_clamp (n := i + 1) (by omega)]
  refine lv_aload_n hx hb dL_law_462 rfl (lv_at hl 4 rfl) ?_
  refine lv_iload hx hb dL_law_463 (lv_at hl 0 rfl) ?_
  refine lv_iconst (v := 2) hx hb dL_law_465 (by decide) ?_
  refine lv_iadd hx hb dL_law_466 ?_
  refine w_eqi (y := nI (i + 2)) (nI_add i 2) ?_
  refine va_sld hx hb hX hbl hbA hS (vp_in_nI (n := i + 2) (by omega) (by omega)) dL_law_467 ?_
  rw [nI_clamp (n := i + 2) (by omega)]
  refine lv_aload_n hx hb dL_law_468 rfl (lv_at hl 1 rfl) ?_
  refine kW hx hb hml hown hts hK hPc hPo hS hKX hNC hge hgo (As := [.ref (ad (0)), .int (xs (i + 1)), .int (xs (i + 2)), .ref qo]) (rest := []) (c_L_setError l hfl dC dI cA ad hI qo hqc Mc fo (xs (i + 1)) (xs (i + 2))) (mkSW hts q_616 q_46 q_614 q_615 hyL_setError rfl rfl ⟨(Nat.le_of_ble_eq_true rfl), (Nat.le_of_ble_eq_true rfl)⟩) rfl hl.1 rfl (Nat.le_of_ble_eq_true rfl) dL_law_469 ⟨by show cells + 2 ≤ 633746; omega, by show slots + 12 ≤ 7194866; omega⟩ (fun r z H locs hw hPc hPo hS _ hk => ?_)
  obtain ⟨Mc1, fo1⟩ := z
  obtain ⟨r0, er⟩ : ∃ z, z = r := ⟨_, rfl⟩
  rw [← er] at hw
  refine w_eqi er.symm ?_
  obtain ⟨hr, hz1, hv1⟩ := WPn_int hw
  dsimp only at hz1 hv1 hPc hPo
  have hPm := wld_kept hPm (B := adW ad qo) (fun k hk9 h => h.elim (fun ⟨j, hj, e⟩ => hap j k hj hk9 e.symm) (fun e => hqm k hk9 e.symm)) hk
  refine lv_istore (lv' := [(5, .int r0), (4, .int (nI (i))), (3, .ref qo), (2, .ref (am (0))), (1, .ref (ad (0))), (0, .ref b)]) hx hb dL_law_472 hl (by decide) rfl (fun ls hl => ?_)
  refine lv_aload_n hx hb dL_law_474 rfl (lv_at hl 3 rfl) ?_
  refine lv_aload_n hx hb dL_law_475 rfl (lv_at hl 5 rfl) ?_
  refine lv_iload hx hb dL_law_476 (lv_at hl 1 rfl) ?_
  refine lv_iconst (v := 1) hx hb dL_law_478 (by decide) ?_
  refine lv_iadd hx hb dL_law_479 ?_
  refine w_eqi (y := nI (i + 1)) (nI_add i 1) ?_
  refine va_sld hx hb hX hbl hbA hS (vp_in_nI (n := i + 1) (by omega) (by omega)) dL_law_480 ?_
  rw [nI_clamp (n := i + 1) (by omega)]
  refine lv_aload_n hx hb dL_law_481 rfl (lv_at hl 5 rfl) ?_
  refine lv_iload hx hb dL_law_482 (lv_at hl 1 rfl) ?_
  refine lv_iconst (v := 2) hx hb dL_law_484 (by decide) ?_
  refine lv_iadd hx hb dL_law_485 ?_
  refine w_eqi (y := nI (i + 2)) (nI_add i 2) ?_
  refine va_sld hx hb hX hbl hbA hS (vp_in_nI (n := i + 2) (by omega) (by omega)) dL_law_486 ?_
  rw [nI_clamp (n := i + 2) (by omega)]
  refine kVi hx hb hml hown hts hK hPm hS hAm (As := [.int (xs (i + 1)), .int (xs (i + 2))]) (rest := []) (c_X6_setError l dC dI cA am hIm Mm (xs (i + 1)) (xs (i + 2)) hwm) (mkV hts q_990 q_53 q_987 q_988 q_989 hyX6_setError rfl rfl ⟨(Nat.le_of_ble_eq_true rfl), (Nat.le_of_ble_eq_true rfl)⟩) (w_recv hK hPm (k := 0) (by decide) lyM0 (q := (RX6, TX6, 26)) rfl) rfl hl.1 rfl (Nat.le_of_ble_eq_true rfl) dL_law_487 ⟨by show cells + 2 ≤ 633746; omega, by show slots + 12 ≤ 7194866; omega⟩ (fun r u H locs hw hPm hS _ hk => ?_)
  have hPc := wld_kept hPc (B := adS 12 am) (fun k hk9 ⟨j, hj, e⟩ => hap k j hk9 hj e) hk
  have hPo := outB_kept hPo (B := adS 12 am) (fun ⟨j, hj, e⟩ => hqm j hj e) hk
  obtain ⟨hw, hwm⟩ := hw
  obtain ⟨Mm1, em⟩ : ∃ z, z = u := ⟨_, rfl⟩
  rw [← em] at hw hwm hPm
  obtain ⟨b1, eb⟩ : ∃ z, z = r := ⟨_, rfl⟩
  rw [← eb] at hw
  refine w_eqi eb.symm ?_
  have hMm := congrArg Prod.snd hw
  have hb0 := congrArg Prod.fst hw
  dsimp only at hMm hb0
  have hb1 := (congrArg Int32.toInt64 hb0).symm
  refine lv_istore (lv' := [(6, .int b1), (5, .int r0), (4, .int (nI (i))), (3, .ref qo), (2, .ref (am (0))), (1, .ref (ad (0))), (0, .ref b)]) hx hb dL_law_490 hl (by decide) rfl (fun ls hl => ?_)
  refine lv_goto (tgt := 880) hx hb dL_law_492 (by decide) ?_
  refine W.widen (k := cells + 3) (n := slots + 18) (by omega) (by omega) ?_
  rw [hz1] at hPc
  rw [hMm] at hPm hwm
  exact kk _ _ _ _ ⟨hPc, hPm, hPo, hS⟩ hwm (lv_sub hl [2, 3, 4, 5, 6] rfl)
set_option maxHeartbeats 4000000 in
set_option maxRecDepth 100000 in
theorem lc_12 {p : Program} {l : Launch} {e : Env} {s : State} {m : MethodId} {below : List Frame} {meth : Method} {c : Code} {b L : Nat} {xs : Nat → Int32} {dC : Nat → ClassId} {dI : Nat → Nat → Nat} {cA : Nat → ClassId} {ad am : Nat → Nat} {qo : Nat} (C : LCx p l s m c b L xs dC dI cA ad am qo) {Q : State → Prop} {cells slots i : Nat} (hi : i + 5 ≤ L) (hcc : cells + 3 ≤ 633746 ∧ slots + 18 ≤ 7194866) {Mc Mm : Mem} {fo : Nat → Int64} {H : Heap} {locs : List Loc} {ls : Array Slot} (hW : LWx s H locs dC dI cA ad am qo Mc Mm fo) (hwm : WFm Mm) (hl : lv_has ls 8 [(4, .int (nI (i))), (3, .ref qo), (2, .ref (am (0))), (1, .ref (ad (0))), (0, .ref b)])
    (kk : ∀ (H : Heap) (locs : List Loc) (ls : Array Slot) (fo : Nat → Int64), LWx s H locs dC dI cA ad am qo ((f_X5_exchange Mc (xs (i + 1)) (xs (i + 2)) (xs (i + 3)) (xs (i + 4))).2.2) ((f_X6_exchange Mm (xs (i + 1)) (xs (i + 2)) (xs (i + 3)) (xs (i + 4))).2) fo → WFm ((f_X6_exchange Mm (xs (i + 1)) (xs (i + 2)) (xs (i + 3)) (xs (i + 4))).2) → lv_has ls 8 [(4, .int (nI (i))), (3, .ref qo), (2, .ref (am (0))), (1, .ref (ad (0))), (0, .ref b)] → W p l e room_1 s m #[Value.ref b] below meth c H locs (cells + 3) (slots + 18) Q (F0 m 880 ls [])) : W p l e room_1 s m #[Value.ref b] below meth c H locs cells slots Q (F0 m 495 ls []) := by
  obtain ⟨hx, hb, hml, hown, hts, hK, hKX, hNC, hfl, hX, hbl, hL, hI, hIm, hge, hgm, hgo, hap, hqc, hqm⟩ := C
  obtain ⟨hPc, hPm, hPo, hS⟩ := hW
  have hbA : ¬ (fun q : Nat => s.heap.size ≤ q) b := Nat.not_le.mpr hbl
  have hAm : ∀ q, adS 12 am q → s.heap.size ≤ q := fun q ⟨k, hk, e⟩ => e ▸ hgm k hk
  have hAc : ∀ q, adS 69 ad q → s.heap.size ≤ q := fun q ⟨k, hk, e⟩ => e ▸ hge k hk
  refine lv_aload_n hx hb dL_law_495 rfl (lv_at hl 3 rfl) ?_
  refine lv_aload_n hx hb dL_law_496 rfl (lv_at hl 4 rfl) ?_
  refine lv_iload hx hb dL_law_497 (lv_at hl 0 rfl) ?_
  refine lv_iconst (v := 1) hx hb dL_law_499 (by decide) ?_
  refine lv_iadd hx hb dL_law_500 ?_
  refine w_eqi (y := nI (i + 1)) (nI_add i 1) ?_
  refine va_sld hx hb hX hbl hbA hS (vp_in_nI (n := i + 1) (by omega) (by omega)) dL_law_501 ?_
  rw [nI_clamp (n := i + 1) (by omega)]
  refine lv_aload_n hx hb dL_law_502 rfl (lv_at hl 4 rfl) ?_
  refine lv_iload hx hb dL_law_503 (lv_at hl 0 rfl) ?_
  refine lv_iconst (v := 2) hx hb dL_law_505 (by decide) ?_
  refine lv_iadd hx hb dL_law_506 ?_
  refine w_eqi (y := nI (i + 2)) (nI_add i 2) ?_
  refine va_sld hx hb hX hbl hbA hS (vp_in_nI (n := i + 2) (by omega) (by omega)) dL_law_507 ?_
  rw [nI_clamp (n := i + 2) (by omega)]
  refine lv_aload_n hx hb dL_law_508 rfl (lv_at hl 4 rfl) ?_
  refine lv_iload hx hb dL_law_509 (lv_at hl 0 rfl) ?_
  refine lv_iconst (v := 3) hx hb dL_law_511 (by decide) ?_
  refine lv_iadd hx hb dL_law_512 ?_
  refine w_eqi (y := nI (i + 3)) (nI_add i 3) ?_
  refine va_sld hx hb hX hbl hbA hS (vp_in_nI (n := i + 3) (by omega) (by omega)) dL_law_513 ?_
  rw [nI_clamp (n := i + 3) (by omega)]
  refine lv_aload_n hx hb dL_law_514 rfl (lv_at hl 4 rfl) ?_
  refine lv_iload hx hb dL_law_515 (lv_at hl 0 rfl) ?_
  refine lv_iconst (v := 4) hx hb dL_law_517 (by decide) ?_
  refine lv_iadd hx hb dL_law_518 ?_
  refine w_eqi (y := nI (i + 4)) (nI_add i 4) ?_
  refine va_sld hx hb hX hbl hbA hS (vp_in_nI (n := i + 4) (by omega) (by omega)) dL_law_519 ?_
  rw [nI_clamp (n := i + 4) (by omega)]
  refine lv_aload_n hx hb dL_law_520 rfl (lv_at hl 1 rfl) ?_
  refine kW hx hb hml hown hts hK hPc hPo hS hKX hNC hge hgo (As := [.ref (ad (0)), .int (xs (i + 1)), .int (xs (i + 2)), .int (xs (i + 3)), .int (xs (i + 4)), .ref qo]) (rest := []) (c_L_exchange l hfl dC dI cA ad hI qo hqc Mc fo (xs (i + 1)) (xs (i + 2)) (xs (i + 3)) (xs (i + 4))) (mkSW hts q_647 q_46 q_645 q_646 hyL_exchange rfl rfl ⟨(Nat.le_of_ble_eq_true rfl), (Nat.le_of_ble_eq_true rfl)⟩) rfl hl.1 rfl (Nat.le_of_ble_eq_true rfl) dL_law_521 ⟨by show cells + 2 ≤ 633746; omega, by show slots + 12 ≤ 7194866; omega⟩ (fun r z H locs hw hPc hPo hS _ hk => ?_)
  obtain ⟨Mc1, fo1⟩ := z
  obtain ⟨r0, er⟩ : ∃ z, z = r := ⟨_, rfl⟩
  rw [← er] at hw
  refine w_eqi er.symm ?_
  obtain ⟨hr, hz1, hv1⟩ := hw
  dsimp only at hz1 hv1 hPc hPo
  have hPm := wld_kept hPm (B := adW ad qo) (fun k hk9 h => h.elim (fun ⟨j, hj, e⟩ => hap j k hj hk9 e.symm) (fun e => hqm k hk9 e.symm)) hk
  refine lv_istore (lv' := [(5, .int r0), (4, .int (nI (i))), (3, .ref qo), (2, .ref (am (0))), (1, .ref (ad (0))), (0, .ref b)]) hx hb dL_law_524 hl (by decide) rfl (fun ls hl => ?_)
  refine lv_aload_n hx hb dL_law_526 rfl (lv_at hl 3 rfl) ?_
  refine lv_aload_n hx hb dL_law_527 rfl (lv_at hl 5 rfl) ?_
  refine lv_iload hx hb dL_law_528 (lv_at hl 1 rfl) ?_
  refine lv_iconst (v := 1) hx hb dL_law_530 (by decide) ?_
  refine lv_iadd hx hb dL_law_531 ?_
  refine w_eqi (y := nI (i + 1)) (nI_add i 1) ?_
  refine va_sld hx hb hX hbl hbA hS (vp_in_nI (n := i + 1) (by omega) (by omega)) dL_law_532 ?_
  rw [nI_clamp (n := i + 1) (by omega)]
  refine lv_aload_n hx hb dL_law_533 rfl (lv_at hl 5 rfl) ?_
  refine lv_iload hx hb dL_law_534 (lv_at hl 1 rfl) ?_
  refine lv_iconst (v := 2) hx hb dL_law_536 (by decide) ?_
  refine lv_iadd hx hb dL_law_537 ?_
  refine w_eqi (y := nI (i + 2)) (nI_add i 2) ?_
  refine va_sld hx hb hX hbl hbA hS (vp_in_nI (n := i + 2) (by omega) (by omega)) dL_law_538 ?_
  rw [nI_clamp (n := i + 2) (by omega)]
  refine lv_aload_n hx hb dL_law_539 rfl (lv_at hl 5 rfl) ?_
  refine lv_iload hx hb dL_law_540 (lv_at hl 1 rfl) ?_
  refine lv_iconst (v := 3) hx hb dL_law_542 (by decide) ?_
  refine lv_iadd hx hb dL_law_543 ?_
  refine w_eqi (y := nI (i + 3)) (nI_add i 3) ?_
  refine va_sld hx hb hX hbl hbA hS (vp_in_nI (n := i + 3) (by omega) (by omega)) dL_law_544 ?_
  rw [nI_clamp (n := i + 3) (by omega)]
  refine lv_aload_n hx hb dL_law_545 rfl (lv_at hl 5 rfl) ?_
  refine lv_iload hx hb dL_law_546 (lv_at hl 1 rfl) ?_
  refine lv_iconst (v := 4) hx hb dL_law_548 (by decide) ?_
  refine lv_iadd hx hb dL_law_549 ?_
  refine w_eqi (y := nI (i + 4)) (nI_add i 4) ?_
  refine va_sld hx hb hX hbl hbA hS (vp_in_nI (n := i + 4) (by omega) (by omega)) dL_law_550 ?_
  rw [nI_clamp (n := i + 4) (by omega)]
  refine kVl hx hb hml hown hts hK hPm hS hAm (As := [.int (xs (i + 1)), .int (xs (i + 2)), .int (xs (i + 3)), .int (xs (i + 4))]) (rest := []) (c_X6_exchange l dC dI cA am hIm Mm (xs (i + 1)) (xs (i + 2)) (xs (i + 3)) (xs (i + 4)) hwm) (mkV hts q_998 q_53 q_995 q_996 q_997 hyX6_exchange rfl rfl ⟨(Nat.le_of_ble_eq_true rfl), (Nat.le_of_ble_eq_true rfl)⟩) (w_recv hK hPm (k := 0) (by decide) lyM0 (q := (RX6, TX6, 26)) rfl) rfl hl.1 rfl (Nat.le_of_ble_eq_true rfl) dL_law_551 ⟨by show cells + 2 ≤ 633746; omega, by show slots + 12 ≤ 7194866; omega⟩ (fun r u H locs hw hPm hS _ hk => ?_)
  have hPc := wld_kept hPc (B := adS 12 am) (fun k hk9 ⟨j, hj, e⟩ => hap k j hk9 hj e) hk
  have hPo := outB_kept hPo (B := adS 12 am) (fun ⟨j, hj, e⟩ => hqm j hj e) hk
  obtain ⟨hw, hwm⟩ := hw
  obtain ⟨Mm1, em⟩ : ∃ z, z = u := ⟨_, rfl⟩
  rw [← em] at hw hwm hPm
  obtain ⟨b1, eb⟩ : ∃ z, z = r := ⟨_, rfl⟩
  rw [← eb] at hw
  refine w_eql eb.symm ?_
  have hMm := congrArg Prod.snd hw
  have hb0 := congrArg Prod.fst hw
  dsimp only at hMm hb0
  have hb1 := hb0.symm
  refine lv_lstore (lv' := [(6, .long b1), (5, .int r0), (4, .int (nI (i))), (3, .ref qo), (2, .ref (am (0))), (1, .ref (ad (0))), (0, .ref b)]) hx hb dL_law_554 hl (by decide) rfl (fun ls hl => ?_)
  refine lv_goto (tgt := 880) hx hb dL_law_556 (by decide) ?_
  refine W.widen (k := cells + 3) (n := slots + 18) (by omega) (by omega) ?_
  rw [hz1] at hPc
  rw [hMm] at hPm hwm
  exact kk _ _ _ _ ⟨hPc, hPm, hPo, hS⟩ hwm (lv_sub hl [2, 3, 4, 5, 6] rfl)
set_option maxHeartbeats 4000000 in
set_option maxRecDepth 100000 in
theorem lc_13 {p : Program} {l : Launch} {e : Env} {s : State} {m : MethodId} {below : List Frame} {meth : Method} {c : Code} {b L : Nat} {xs : Nat → Int32} {dC : Nat → ClassId} {dI : Nat → Nat → Nat} {cA : Nat → ClassId} {ad am : Nat → Nat} {qo : Nat} (C : LCx p l s m c b L xs dC dI cA ad am qo) {Q : State → Prop} {cells slots i : Nat} (hi : i + 5 ≤ L) (hcc : cells + 3 ≤ 633746 ∧ slots + 18 ≤ 7194866) {Mc Mm : Mem} {fo : Nat → Int64} {H : Heap} {locs : List Loc} {ls : Array Slot} (hW : LWx s H locs dC dI cA ad am qo Mc Mm fo) (hwm : WFm Mm) (hl : lv_has ls 8 [(4, .int (nI (i))), (3, .ref qo), (2, .ref (am (0))), (1, .ref (ad (0))), (0, .ref b)])
    (kk : ∀ (H : Heap) (locs : List Loc) (ls : Array Slot) (fo : Nat → Int64), LWx s H locs dC dI cA ad am qo Mc ((f_X6_servers Mm).2) fo → WFm ((f_X6_servers Mm).2) → lv_has ls 8 [(4, .int (nI (i))), (3, .ref qo), (2, .ref (am (0))), (1, .ref (ad (0))), (0, .ref b)] → W p l e room_1 s m #[Value.ref b] below meth c H locs (cells + 3) (slots + 18) Q (F0 m 880 ls [])) : W p l e room_1 s m #[Value.ref b] below meth c H locs cells slots Q (F0 m 559 ls []) := by
  obtain ⟨hx, hb, hml, hown, hts, hK, hKX, hNC, hfl, hX, hbl, hL, hI, hIm, hge, hgm, hgo, hap, hqc, hqm⟩ := C
  obtain ⟨hPc, hPm, hPo, hS⟩ := hW
  have hbA : ¬ (fun q : Nat => s.heap.size ≤ q) b := Nat.not_le.mpr hbl
  have hAm : ∀ q, adS 12 am q → s.heap.size ≤ q := fun q ⟨k, hk, e⟩ => e ▸ hgm k hk
  have hAc : ∀ q, adS 69 ad q → s.heap.size ≤ q := fun q ⟨k, hk, e⟩ => e ▸ hge k hk
  refine lv_aload_n hx hb dL_law_559 rfl (lv_at hl 3 rfl) ?_
  refine kVi hx hb hml hown hts hK hPc hS hAc (As := []) (rest := []) (c_X5_servers l dC dI cA ad hI Mc) (mkV hts q_287 q_47 q_284 q_285 q_286 hyX5_servers rfl rfl ⟨(Nat.le_of_ble_eq_true rfl), (Nat.le_of_ble_eq_true rfl)⟩) (w_recv hK hPc (k := 0) (by decide) lyC0 (q := (RX5, TX5, 10)) rfl) rfl hl.1 rfl (Nat.le_of_ble_eq_true rfl) dL_law_560 ⟨by show cells ≤ 633746; omega, by show slots ≤ 7194866; omega⟩ (fun r u H locs hw hPc hS _ hk => ?_)
  have hPm := wld_kept hPm (B := adS 69 ad) (fun k hk9 ⟨j, hj, e⟩ => hap j k hj hk9 e.symm) hk
  have hPo := outB_kept hPo (B := adS 69 ad) (fun ⟨j, hj, e⟩ => hqc j hj e) hk
  obtain ⟨Mc1, ec⟩ : ∃ z, z = u := ⟨_, rfl⟩
  rw [← ec] at hw hPc
  obtain ⟨a1, ea⟩ : ∃ z, z = r := ⟨_, rfl⟩
  rw [← ea] at hw
  refine w_eqi ea.symm ?_
  obtain ⟨ha0, hz1⟩ := hw
  refine lv_pop hx hb dL_law_563 rfl ?_
  refine lv_aload_n hx hb dL_law_564 rfl (lv_at hl 2 rfl) ?_
  refine kVi hx hb hml hown hts hK hPm hS hAm (As := []) (rest := []) (c_X6_servers l dC dI cA am hIm Mm  hwm) (mkV hts q_1009 q_53 q_1006 q_1007 q_1008 hyX6_servers rfl rfl ⟨(Nat.le_of_ble_eq_true rfl), (Nat.le_of_ble_eq_true rfl)⟩) (w_recv hK hPm (k := 0) (by decide) lyM0 (q := (RX6, TX6, 26)) rfl) rfl hl.1 rfl (Nat.le_of_ble_eq_true rfl) dL_law_565 ⟨by show cells ≤ 633746; omega, by show slots ≤ 7194866; omega⟩ (fun r u H locs hw hPm hS _ hk => ?_)
  have hPc := wld_kept hPc (B := adS 12 am) (fun k hk9 ⟨j, hj, e⟩ => hap k j hk9 hj e) hk
  have hPo := outB_kept hPo (B := adS 12 am) (fun ⟨j, hj, e⟩ => hqm j hj e) hk
  obtain ⟨hw, hwm⟩ := hw
  obtain ⟨Mm1, em⟩ : ∃ z, z = u := ⟨_, rfl⟩
  rw [← em] at hw hwm hPm
  obtain ⟨b1, eb⟩ : ∃ z, z = r := ⟨_, rfl⟩
  rw [← eb] at hw
  refine w_eqi eb.symm ?_
  have hMm := congrArg Prod.snd hw
  have hb0 := congrArg Prod.fst hw
  dsimp only at hMm hb0
  refine lv_pop hx hb dL_law_568 rfl ?_
  refine lv_goto (tgt := 880) hx hb dL_law_569 (by decide) ?_
  refine W.widen (k := cells + 3) (n := slots + 18) (by omega) (by omega) ?_
  rw [hz1] at hPc
  rw [hMm] at hPm hwm
  exact kk _ _ _ _ ⟨hPc, hPm, hPo, hS⟩ hwm (lv_sub hl [0, 1, 2, 3, 4] rfl)
set_option maxHeartbeats 4000000 in
set_option maxRecDepth 100000 in
theorem lc_14 {p : Program} {l : Launch} {e : Env} {s : State} {m : MethodId} {below : List Frame} {meth : Method} {c : Code} {b L : Nat} {xs : Nat → Int32} {dC : Nat → ClassId} {dI : Nat → Nat → Nat} {cA : Nat → ClassId} {ad am : Nat → Nat} {qo : Nat} (C : LCx p l s m c b L xs dC dI cA ad am qo) {Q : State → Prop} {cells slots i : Nat} (hi : i + 5 ≤ L) (hcc : cells + 3 ≤ 633746 ∧ slots + 18 ≤ 7194866) {Mc Mm : Mem} {fo : Nat → Int64} {H : Heap} {locs : List Loc} {ls : Array Slot} (hW : LWx s H locs dC dI cA ad am qo Mc Mm fo) (hwm : WFm Mm) (hl : lv_has ls 8 [(4, .int (nI (i))), (3, .ref qo), (2, .ref (am (0))), (1, .ref (ad (0))), (0, .ref b)])
    (kk : ∀ (H : Heap) (locs : List Loc) (ls : Array Slot) (fo : Nat → Int64), LWx s H locs dC dI cA ad am qo ((f_X5_samples Mc (xs (i + 1))).2.2) ((f_X6_samples Mm (xs (i + 1))).2) fo → WFm ((f_X6_samples Mm (xs (i + 1))).2) → lv_has ls 8 [(4, .int (nI (i))), (3, .ref qo), (2, .ref (am (0))), (1, .ref (ad (0))), (0, .ref b)] → W p l e room_1 s m #[Value.ref b] below meth c H locs (cells + 3) (slots + 18) Q (F0 m 880 ls [])) : W p l e room_1 s m #[Value.ref b] below meth c H locs cells slots Q (F0 m 572 ls []) := by
  obtain ⟨hx, hb, hml, hown, hts, hK, hKX, hNC, hfl, hX, hbl, hL, hI, hIm, hge, hgm, hgo, hap, hqc, hqm⟩ := C
  obtain ⟨hPc, hPm, hPo, hS⟩ := hW
  have hbA : ¬ (fun q : Nat => s.heap.size ≤ q) b := Nat.not_le.mpr hbl
  have hAm : ∀ q, adS 12 am q → s.heap.size ≤ q := fun q ⟨k, hk, e⟩ => e ▸ hgm k hk
  have hAc : ∀ q, adS 69 ad q → s.heap.size ≤ q := fun q ⟨k, hk, e⟩ => e ▸ hge k hk
  refine lv_aload_n hx hb dL_law_572 rfl (lv_at hl 3 rfl) ?_
  refine lv_aload_n hx hb dL_law_573 rfl (lv_at hl 4 rfl) ?_
  refine lv_iload hx hb dL_law_574 (lv_at hl 0 rfl) ?_
  refine lv_iconst (v := 1) hx hb dL_law_576 (by decide) ?_
  refine lv_iadd hx hb dL_law_577 ?_
  refine w_eqi (y := nI (i + 1)) (nI_add i 1) ?_
  refine va_sld hx hb hX hbl hbA hS (vp_in_nI (n := i + 1) (by omega) (by omega)) dL_law_578 ?_
  rw [nI_clamp (n := i + 1) (by omega)]
  refine lv_aload_n hx hb dL_law_579 rfl (lv_at hl 1 rfl) ?_
  refine kW hx hb hml hown hts hK hPc hPo hS hKX hNC hge hgo (As := [.ref (ad (0)), .int (xs (i + 1)), .ref qo]) (rest := []) (c_L_samples l hfl dC dI cA ad hI qo hqc Mc fo (xs (i + 1))) (mkSW hts q_684 q_46 q_682 q_683 hyL_samples rfl rfl ⟨(Nat.le_of_ble_eq_true rfl), (Nat.le_of_ble_eq_true rfl)⟩) rfl hl.1 rfl (Nat.le_of_ble_eq_true rfl) dL_law_580 ⟨by show cells + 1 ≤ 633746; omega, by show slots + 6 ≤ 7194866; omega⟩ (fun r z H locs hw hPc hPo hS _ hk => ?_)
  obtain ⟨Mc1, fo1⟩ := z
  obtain ⟨r0, er⟩ : ∃ z, z = r := ⟨_, rfl⟩
  rw [← er] at hw
  refine w_eqi er.symm ?_
  obtain ⟨hr, hz1, hv1⟩ := WPn_int hw
  dsimp only at hz1 hv1 hPc hPo
  have hPm := wld_kept hPm (B := adW ad qo) (fun k hk9 h => h.elim (fun ⟨j, hj, e⟩ => hap j k hj hk9 e.symm) (fun e => hqm k hk9 e.symm)) hk
  refine lv_istore (lv' := [(5, .int r0), (4, .int (nI (i))), (3, .ref qo), (2, .ref (am (0))), (1, .ref (ad (0))), (0, .ref b)]) hx hb dL_law_583 hl (by decide) rfl (fun ls hl => ?_)
  refine lv_aload_n hx hb dL_law_585 rfl (lv_at hl 3 rfl) ?_
  refine lv_aload_n hx hb dL_law_586 rfl (lv_at hl 5 rfl) ?_
  refine lv_iload hx hb dL_law_587 (lv_at hl 1 rfl) ?_
  refine lv_iconst (v := 1) hx hb dL_law_589 (by decide) ?_
  refine lv_iadd hx hb dL_law_590 ?_
  refine w_eqi (y := nI (i + 1)) (nI_add i 1) ?_
  refine va_sld hx hb hX hbl hbA hS (vp_in_nI (n := i + 1) (by omega) (by omega)) dL_law_591 ?_
  rw [nI_clamp (n := i + 1) (by omega)]
  refine kVi hx hb hml hown hts hK hPm hS hAm (As := [.int (xs (i + 1))]) (rest := []) (c_X6_samples l dC dI cA am hIm Mm (xs (i + 1)) hwm) (mkV hts q_1013 q_53 q_1010 q_1011 q_1012 hyX6_samples rfl rfl ⟨(Nat.le_of_ble_eq_true rfl), (Nat.le_of_ble_eq_true rfl)⟩) (w_recv hK hPm (k := 0) (by decide) lyM0 (q := (RX6, TX6, 26)) rfl) rfl hl.1 rfl (Nat.le_of_ble_eq_true rfl) dL_law_592 ⟨by show cells + 1 ≤ 633746; omega, by show slots + 6 ≤ 7194866; omega⟩ (fun r u H locs hw hPm hS _ hk => ?_)
  have hPc := wld_kept hPc (B := adS 12 am) (fun k hk9 ⟨j, hj, e⟩ => hap k j hk9 hj e) hk
  have hPo := outB_kept hPo (B := adS 12 am) (fun ⟨j, hj, e⟩ => hqm j hj e) hk
  obtain ⟨hw, hwm⟩ := hw
  obtain ⟨Mm1, em⟩ : ∃ z, z = u := ⟨_, rfl⟩
  rw [← em] at hw hwm hPm
  obtain ⟨b1, eb⟩ : ∃ z, z = r := ⟨_, rfl⟩
  rw [← eb] at hw
  refine w_eqi eb.symm ?_
  have hMm := congrArg Prod.snd hw
  have hb0 := congrArg Prod.fst hw
  dsimp only at hMm hb0
  have hb1 := (congrArg Int32.toInt64 hb0).symm
  refine lv_istore (lv' := [(6, .int b1), (5, .int r0), (4, .int (nI (i))), (3, .ref qo), (2, .ref (am (0))), (1, .ref (ad (0))), (0, .ref b)]) hx hb dL_law_595 hl (by decide) rfl (fun ls hl => ?_)
  refine lv_goto (tgt := 880) hx hb dL_law_597 (by decide) ?_
  refine W.widen (k := cells + 3) (n := slots + 18) (by omega) (by omega) ?_
  rw [hz1] at hPc
  rw [hMm] at hPm hwm
  exact kk _ _ _ _ ⟨hPc, hPm, hPo, hS⟩ hwm (lv_sub hl [2, 3, 4, 5, 6] rfl)
set_option maxHeartbeats 4000000 in
set_option maxRecDepth 100000 in
theorem lc_15 {p : Program} {l : Launch} {e : Env} {s : State} {m : MethodId} {below : List Frame} {meth : Method} {c : Code} {b L : Nat} {xs : Nat → Int32} {dC : Nat → ClassId} {dI : Nat → Nat → Nat} {cA : Nat → ClassId} {ad am : Nat → Nat} {qo : Nat} (C : LCx p l s m c b L xs dC dI cA ad am qo) {Q : State → Prop} {cells slots i : Nat} (hi : i + 5 ≤ L) (hcc : cells + 3 ≤ 633746 ∧ slots + 18 ≤ 7194866) {Mc Mm : Mem} {fo : Nat → Int64} {H : Heap} {locs : List Loc} {ls : Array Slot} (hW : LWx s H locs dC dI cA ad am qo Mc Mm fo) (hwm : WFm Mm) (hl : lv_has ls 8 [(4, .int (nI (i))), (3, .ref qo), (2, .ref (am (0))), (1, .ref (ad (0))), (0, .ref b)])
    (kk : ∀ (H : Heap) (locs : List Loc) (ls : Array Slot) (fo : Nat → Int64), LWx s H locs dC dI cA ad am qo ((f_X5_offset Mc (xs (i + 1))).2.2) ((f_X6_offset Mm (xs (i + 1))).2) fo → WFm ((f_X6_offset Mm (xs (i + 1))).2) → lv_has ls 8 [(4, .int (nI (i))), (3, .ref qo), (2, .ref (am (0))), (1, .ref (ad (0))), (0, .ref b)] → W p l e room_1 s m #[Value.ref b] below meth c H locs (cells + 3) (slots + 18) Q (F0 m 880 ls [])) : W p l e room_1 s m #[Value.ref b] below meth c H locs cells slots Q (F0 m 600 ls []) := by
  obtain ⟨hx, hb, hml, hown, hts, hK, hKX, hNC, hfl, hX, hbl, hL, hI, hIm, hge, hgm, hgo, hap, hqc, hqm⟩ := C
  obtain ⟨hPc, hPm, hPo, hS⟩ := hW
  have hbA : ¬ (fun q : Nat => s.heap.size ≤ q) b := Nat.not_le.mpr hbl
  have hAm : ∀ q, adS 12 am q → s.heap.size ≤ q := fun q ⟨k, hk, e⟩ => e ▸ hgm k hk
  have hAc : ∀ q, adS 69 ad q → s.heap.size ≤ q := fun q ⟨k, hk, e⟩ => e ▸ hge k hk
  refine lv_aload_n hx hb dL_law_600 rfl (lv_at hl 3 rfl) ?_
  refine lv_aload_n hx hb dL_law_601 rfl (lv_at hl 4 rfl) ?_
  refine lv_iload hx hb dL_law_602 (lv_at hl 0 rfl) ?_
  refine lv_iconst (v := 1) hx hb dL_law_604 (by decide) ?_
  refine lv_iadd hx hb dL_law_605 ?_
  refine w_eqi (y := nI (i + 1)) (nI_add i 1) ?_
  refine va_sld hx hb hX hbl hbA hS (vp_in_nI (n := i + 1) (by omega) (by omega)) dL_law_606 ?_
  rw [nI_clamp (n := i + 1) (by omega)]
  refine lv_aload_n hx hb dL_law_607 rfl (lv_at hl 1 rfl) ?_
  refine kW hx hb hml hown hts hK hPc hPo hS hKX hNC hge hgo (As := [.ref (ad (0)), .int (xs (i + 1)), .ref qo]) (rest := []) (c_L_offset l hfl dC dI cA ad hI qo hqc Mc fo (xs (i + 1))) (mkSW hts q_691 q_46 q_689 q_690 hyL_offset rfl rfl ⟨(Nat.le_of_ble_eq_true rfl), (Nat.le_of_ble_eq_true rfl)⟩) rfl hl.1 rfl (Nat.le_of_ble_eq_true rfl) dL_law_608 ⟨by show cells + 2 ≤ 633746; omega, by show slots + 12 ≤ 7194866; omega⟩ (fun r z H locs hw hPc hPo hS _ hk => ?_)
  obtain ⟨Mc1, fo1⟩ := z
  obtain ⟨r0, er⟩ : ∃ z, z = r := ⟨_, rfl⟩
  rw [← er] at hw
  refine w_eqi er.symm ?_
  obtain ⟨hr, hz1, hv1⟩ := hw
  dsimp only at hz1 hv1 hPc hPo
  have hPm := wld_kept hPm (B := adW ad qo) (fun k hk9 h => h.elim (fun ⟨j, hj, e⟩ => hap j k hj hk9 e.symm) (fun e => hqm k hk9 e.symm)) hk
  refine lv_istore (lv' := [(5, .int r0), (4, .int (nI (i))), (3, .ref qo), (2, .ref (am (0))), (1, .ref (ad (0))), (0, .ref b)]) hx hb dL_law_611 hl (by decide) rfl (fun ls hl => ?_)
  refine lv_aload_n hx hb dL_law_613 rfl (lv_at hl 3 rfl) ?_
  refine lv_aload_n hx hb dL_law_614 rfl (lv_at hl 5 rfl) ?_
  refine lv_iload hx hb dL_law_615 (lv_at hl 1 rfl) ?_
  refine lv_iconst (v := 1) hx hb dL_law_617 (by decide) ?_
  refine lv_iadd hx hb dL_law_618 ?_
  refine w_eqi (y := nI (i + 1)) (nI_add i 1) ?_
  refine va_sld hx hb hX hbl hbA hS (vp_in_nI (n := i + 1) (by omega) (by omega)) dL_law_619 ?_
  rw [nI_clamp (n := i + 1) (by omega)]
  refine kVl hx hb hml hown hts hK hPm hS hAm (As := [.int (xs (i + 1))]) (rest := []) (c_X6_offset l dC dI cA am hIm Mm (xs (i + 1)) hwm) (mkV hts q_1017 q_53 q_1014 q_1015 q_1016 hyX6_offset rfl rfl ⟨(Nat.le_of_ble_eq_true rfl), (Nat.le_of_ble_eq_true rfl)⟩) (w_recv hK hPm (k := 0) (by decide) lyM0 (q := (RX6, TX6, 26)) rfl) rfl hl.1 rfl (Nat.le_of_ble_eq_true rfl) dL_law_620 ⟨by show cells + 2 ≤ 633746; omega, by show slots + 12 ≤ 7194866; omega⟩ (fun r u H locs hw hPm hS _ hk => ?_)
  have hPc := wld_kept hPc (B := adS 12 am) (fun k hk9 ⟨j, hj, e⟩ => hap k j hk9 hj e) hk
  have hPo := outB_kept hPo (B := adS 12 am) (fun ⟨j, hj, e⟩ => hqm j hj e) hk
  obtain ⟨hw, hwm⟩ := hw
  obtain ⟨Mm1, em⟩ : ∃ z, z = u := ⟨_, rfl⟩
  rw [← em] at hw hwm hPm
  obtain ⟨b1, eb⟩ : ∃ z, z = r := ⟨_, rfl⟩
  rw [← eb] at hw
  refine w_eql eb.symm ?_
  have hMm := congrArg Prod.snd hw
  have hb0 := congrArg Prod.fst hw
  dsimp only at hMm hb0
  have hb1 := hb0.symm
  refine lv_lstore (lv' := [(6, .long b1), (5, .int r0), (4, .int (nI (i))), (3, .ref qo), (2, .ref (am (0))), (1, .ref (ad (0))), (0, .ref b)]) hx hb dL_law_623 hl (by decide) rfl (fun ls hl => ?_)
  refine lv_goto (tgt := 880) hx hb dL_law_625 (by decide) ?_
  refine W.widen (k := cells + 3) (n := slots + 18) (by omega) (by omega) ?_
  rw [hz1] at hPc
  rw [hMm] at hPm hwm
  exact kk _ _ _ _ ⟨hPc, hPm, hPo, hS⟩ hwm (lv_sub hl [2, 3, 4, 5, 6] rfl)
set_option maxHeartbeats 4000000 in
set_option maxRecDepth 100000 in
theorem lc_16 {p : Program} {l : Launch} {e : Env} {s : State} {m : MethodId} {below : List Frame} {meth : Method} {c : Code} {b L : Nat} {xs : Nat → Int32} {dC : Nat → ClassId} {dI : Nat → Nat → Nat} {cA : Nat → ClassId} {ad am : Nat → Nat} {qo : Nat} (C : LCx p l s m c b L xs dC dI cA ad am qo) {Q : State → Prop} {cells slots i : Nat} (hi : i + 5 ≤ L) (hcc : cells + 3 ≤ 633746 ∧ slots + 18 ≤ 7194866) {Mc Mm : Mem} {fo : Nat → Int64} {H : Heap} {locs : List Loc} {ls : Array Slot} (hW : LWx s H locs dC dI cA ad am qo Mc Mm fo) (hwm : WFm Mm) (hl : lv_has ls 8 [(4, .int (nI (i))), (3, .ref qo), (2, .ref (am (0))), (1, .ref (ad (0))), (0, .ref b)])
    (kk : ∀ (H : Heap) (locs : List Loc) (ls : Array Slot) (fo : Nat → Int64), LWx s H locs dC dI cA ad am qo ((f_X5_delay Mc (xs (i + 1))).2.2) ((f_X6_delay Mm (xs (i + 1))).2) fo → WFm ((f_X6_delay Mm (xs (i + 1))).2) → lv_has ls 8 [(4, .int (nI (i))), (3, .ref qo), (2, .ref (am (0))), (1, .ref (ad (0))), (0, .ref b)] → W p l e room_1 s m #[Value.ref b] below meth c H locs (cells + 3) (slots + 18) Q (F0 m 880 ls [])) : W p l e room_1 s m #[Value.ref b] below meth c H locs cells slots Q (F0 m 628 ls []) := by
  obtain ⟨hx, hb, hml, hown, hts, hK, hKX, hNC, hfl, hX, hbl, hL, hI, hIm, hge, hgm, hgo, hap, hqc, hqm⟩ := C
  obtain ⟨hPc, hPm, hPo, hS⟩ := hW
  have hbA : ¬ (fun q : Nat => s.heap.size ≤ q) b := Nat.not_le.mpr hbl
  have hAm : ∀ q, adS 12 am q → s.heap.size ≤ q := fun q ⟨k, hk, e⟩ => e ▸ hgm k hk
  have hAc : ∀ q, adS 69 ad q → s.heap.size ≤ q := fun q ⟨k, hk, e⟩ => e ▸ hge k hk
  refine lv_aload_n hx hb dL_law_628 rfl (lv_at hl 3 rfl) ?_
  refine lv_aload_n hx hb dL_law_629 rfl (lv_at hl 4 rfl) ?_
  refine lv_iload hx hb dL_law_630 (lv_at hl 0 rfl) ?_
  refine lv_iconst (v := 1) hx hb dL_law_632 (by decide) ?_
  refine lv_iadd hx hb dL_law_633 ?_
  refine w_eqi (y := nI (i + 1)) (nI_add i 1) ?_
  refine va_sld hx hb hX hbl hbA hS (vp_in_nI (n := i + 1) (by omega) (by omega)) dL_law_634 ?_
  rw [nI_clamp (n := i + 1) (by omega)]
  refine lv_aload_n hx hb dL_law_635 rfl (lv_at hl 1 rfl) ?_
  refine kW hx hb hml hown hts hK hPc hPo hS hKX hNC hge hgo (As := [.ref (ad (0)), .int (xs (i + 1)), .ref qo]) (rest := []) (c_L_delay l hfl dC dI cA ad hI qo hqc Mc fo (xs (i + 1))) (mkSW hts q_703 q_46 q_701 q_702 hyL_delay rfl rfl ⟨(Nat.le_of_ble_eq_true rfl), (Nat.le_of_ble_eq_true rfl)⟩) rfl hl.1 rfl (Nat.le_of_ble_eq_true rfl) dL_law_636 ⟨by show cells + 2 ≤ 633746; omega, by show slots + 12 ≤ 7194866; omega⟩ (fun r z H locs hw hPc hPo hS _ hk => ?_)
  obtain ⟨Mc1, fo1⟩ := z
  obtain ⟨r0, er⟩ : ∃ z, z = r := ⟨_, rfl⟩
  rw [← er] at hw
  refine w_eqi er.symm ?_
  obtain ⟨hr, hz1, hv1⟩ := hw
  dsimp only at hz1 hv1 hPc hPo
  have hPm := wld_kept hPm (B := adW ad qo) (fun k hk9 h => h.elim (fun ⟨j, hj, e⟩ => hap j k hj hk9 e.symm) (fun e => hqm k hk9 e.symm)) hk
  refine lv_istore (lv' := [(5, .int r0), (4, .int (nI (i))), (3, .ref qo), (2, .ref (am (0))), (1, .ref (ad (0))), (0, .ref b)]) hx hb dL_law_639 hl (by decide) rfl (fun ls hl => ?_)
  refine lv_aload_n hx hb dL_law_641 rfl (lv_at hl 3 rfl) ?_
  refine lv_aload_n hx hb dL_law_642 rfl (lv_at hl 5 rfl) ?_
  refine lv_iload hx hb dL_law_643 (lv_at hl 1 rfl) ?_
  refine lv_iconst (v := 1) hx hb dL_law_645 (by decide) ?_
  refine lv_iadd hx hb dL_law_646 ?_
  refine w_eqi (y := nI (i + 1)) (nI_add i 1) ?_
  refine va_sld hx hb hX hbl hbA hS (vp_in_nI (n := i + 1) (by omega) (by omega)) dL_law_647 ?_
  rw [nI_clamp (n := i + 1) (by omega)]
  refine kVl hx hb hml hown hts hK hPm hS hAm (As := [.int (xs (i + 1))]) (rest := []) (c_X6_delay l dC dI cA am hIm Mm (xs (i + 1)) hwm) (mkV hts q_1029 q_53 q_1026 q_1027 q_1028 hyX6_delay rfl rfl ⟨(Nat.le_of_ble_eq_true rfl), (Nat.le_of_ble_eq_true rfl)⟩) (w_recv hK hPm (k := 0) (by decide) lyM0 (q := (RX6, TX6, 26)) rfl) rfl hl.1 rfl (Nat.le_of_ble_eq_true rfl) dL_law_648 ⟨by show cells + 2 ≤ 633746; omega, by show slots + 12 ≤ 7194866; omega⟩ (fun r u H locs hw hPm hS _ hk => ?_)
  have hPc := wld_kept hPc (B := adS 12 am) (fun k hk9 ⟨j, hj, e⟩ => hap k j hk9 hj e) hk
  have hPo := outB_kept hPo (B := adS 12 am) (fun ⟨j, hj, e⟩ => hqm j hj e) hk
  obtain ⟨hw, hwm⟩ := hw
  obtain ⟨Mm1, em⟩ : ∃ z, z = u := ⟨_, rfl⟩
  rw [← em] at hw hwm hPm
  obtain ⟨b1, eb⟩ : ∃ z, z = r := ⟨_, rfl⟩
  rw [← eb] at hw
  refine w_eql eb.symm ?_
  have hMm := congrArg Prod.snd hw
  have hb0 := congrArg Prod.fst hw
  dsimp only at hMm hb0
  have hb1 := hb0.symm
  refine lv_lstore (lv' := [(6, .long b1), (5, .int r0), (4, .int (nI (i))), (3, .ref qo), (2, .ref (am (0))), (1, .ref (ad (0))), (0, .ref b)]) hx hb dL_law_651 hl (by decide) rfl (fun ls hl => ?_)
  refine lv_goto (tgt := 880) hx hb dL_law_653 (by decide) ?_
  refine W.widen (k := cells + 3) (n := slots + 18) (by omega) (by omega) ?_
  rw [hz1] at hPc
  rw [hMm] at hPm hwm
  exact kk _ _ _ _ ⟨hPc, hPm, hPo, hS⟩ hwm (lv_sub hl [2, 3, 4, 5, 6] rfl)
set_option maxHeartbeats 4000000 in
set_option maxRecDepth 100000 in
theorem lc_17 {p : Program} {l : Launch} {e : Env} {s : State} {m : MethodId} {below : List Frame} {meth : Method} {c : Code} {b L : Nat} {xs : Nat → Int32} {dC : Nat → ClassId} {dI : Nat → Nat → Nat} {cA : Nat → ClassId} {ad am : Nat → Nat} {qo : Nat} (C : LCx p l s m c b L xs dC dI cA ad am qo) {Q : State → Prop} {cells slots i : Nat} (hi : i + 5 ≤ L) (hcc : cells + 3 ≤ 633746 ∧ slots + 18 ≤ 7194866) {Mc Mm : Mem} {fo : Nat → Int64} {H : Heap} {locs : List Loc} {ls : Array Slot} (hW : LWx s H locs dC dI cA ad am qo Mc Mm fo) (hwm : WFm Mm) (hl : lv_has ls 8 [(4, .int (nI (i))), (3, .ref qo), (2, .ref (am (0))), (1, .ref (ad (0))), (0, .ref b)])
    (kk : ∀ (H : Heap) (locs : List Loc) (ls : Array Slot) (fo : Nat → Int64), LWx s H locs dC dI cA ad am qo ((f_X5_jitter Mc (xs (i + 1))).2.2) ((f_X6_jitter Mm (xs (i + 1))).2) fo → WFm ((f_X6_jitter Mm (xs (i + 1))).2) → lv_has ls 8 [(4, .int (nI (i))), (3, .ref qo), (2, .ref (am (0))), (1, .ref (ad (0))), (0, .ref b)] → W p l e room_1 s m #[Value.ref b] below meth c H locs (cells + 3) (slots + 18) Q (F0 m 880 ls [])) : W p l e room_1 s m #[Value.ref b] below meth c H locs cells slots Q (F0 m 656 ls []) := by
  obtain ⟨hx, hb, hml, hown, hts, hK, hKX, hNC, hfl, hX, hbl, hL, hI, hIm, hge, hgm, hgo, hap, hqc, hqm⟩ := C
  obtain ⟨hPc, hPm, hPo, hS⟩ := hW
  have hbA : ¬ (fun q : Nat => s.heap.size ≤ q) b := Nat.not_le.mpr hbl
  have hAm : ∀ q, adS 12 am q → s.heap.size ≤ q := fun q ⟨k, hk, e⟩ => e ▸ hgm k hk
  have hAc : ∀ q, adS 69 ad q → s.heap.size ≤ q := fun q ⟨k, hk, e⟩ => e ▸ hge k hk
  refine lv_aload_n hx hb dL_law_656 rfl (lv_at hl 3 rfl) ?_
  refine lv_aload_n hx hb dL_law_657 rfl (lv_at hl 4 rfl) ?_
  refine lv_iload hx hb dL_law_658 (lv_at hl 0 rfl) ?_
  refine lv_iconst (v := 1) hx hb dL_law_660 (by decide) ?_
  refine lv_iadd hx hb dL_law_661 ?_
  refine w_eqi (y := nI (i + 1)) (nI_add i 1) ?_
  refine va_sld hx hb hX hbl hbA hS (vp_in_nI (n := i + 1) (by omega) (by omega)) dL_law_662 ?_
  rw [nI_clamp (n := i + 1) (by omega)]
  refine lv_aload_n hx hb dL_law_663 rfl (lv_at hl 1 rfl) ?_
  refine kW hx hb hml hown hts hK hPc hPo hS hKX hNC hge hgo (As := [.ref (ad (0)), .int (xs (i + 1)), .ref qo]) (rest := []) (c_L_jitter l hfl dC dI cA ad hI qo hqc Mc fo (xs (i + 1))) (mkSW hts q_711 q_46 q_709 q_710 hyL_jitter rfl rfl ⟨(Nat.le_of_ble_eq_true rfl), (Nat.le_of_ble_eq_true rfl)⟩) rfl hl.1 rfl (Nat.le_of_ble_eq_true rfl) dL_law_664 ⟨by show cells + 2 ≤ 633746; omega, by show slots + 12 ≤ 7194866; omega⟩ (fun r z H locs hw hPc hPo hS _ hk => ?_)
  obtain ⟨Mc1, fo1⟩ := z
  obtain ⟨r0, er⟩ : ∃ z, z = r := ⟨_, rfl⟩
  rw [← er] at hw
  refine w_eqi er.symm ?_
  obtain ⟨hr, hz1, hv1⟩ := hw
  dsimp only at hz1 hv1 hPc hPo
  have hPm := wld_kept hPm (B := adW ad qo) (fun k hk9 h => h.elim (fun ⟨j, hj, e⟩ => hap j k hj hk9 e.symm) (fun e => hqm k hk9 e.symm)) hk
  refine lv_istore (lv' := [(5, .int r0), (4, .int (nI (i))), (3, .ref qo), (2, .ref (am (0))), (1, .ref (ad (0))), (0, .ref b)]) hx hb dL_law_667 hl (by decide) rfl (fun ls hl => ?_)
  refine lv_aload_n hx hb dL_law_669 rfl (lv_at hl 3 rfl) ?_
  refine lv_aload_n hx hb dL_law_670 rfl (lv_at hl 5 rfl) ?_
  refine lv_iload hx hb dL_law_671 (lv_at hl 1 rfl) ?_
  refine lv_iconst (v := 1) hx hb dL_law_673 (by decide) ?_
  refine lv_iadd hx hb dL_law_674 ?_
  refine w_eqi (y := nI (i + 1)) (nI_add i 1) ?_
  refine va_sld hx hb hX hbl hbA hS (vp_in_nI (n := i + 1) (by omega) (by omega)) dL_law_675 ?_
  rw [nI_clamp (n := i + 1) (by omega)]
  refine kVl hx hb hml hown hts hK hPm hS hAm (As := [.int (xs (i + 1))]) (rest := []) (c_X6_jitter l dC dI cA am hIm Mm (xs (i + 1)) hwm) (mkV hts q_1033 q_53 q_1030 q_1031 q_1032 hyX6_jitter rfl rfl ⟨(Nat.le_of_ble_eq_true rfl), (Nat.le_of_ble_eq_true rfl)⟩) (w_recv hK hPm (k := 0) (by decide) lyM0 (q := (RX6, TX6, 26)) rfl) rfl hl.1 rfl (Nat.le_of_ble_eq_true rfl) dL_law_676 ⟨by show cells + 2 ≤ 633746; omega, by show slots + 12 ≤ 7194866; omega⟩ (fun r u H locs hw hPm hS _ hk => ?_)
  have hPc := wld_kept hPc (B := adS 12 am) (fun k hk9 ⟨j, hj, e⟩ => hap k j hk9 hj e) hk
  have hPo := outB_kept hPo (B := adS 12 am) (fun ⟨j, hj, e⟩ => hqm j hj e) hk
  obtain ⟨hw, hwm⟩ := hw
  obtain ⟨Mm1, em⟩ : ∃ z, z = u := ⟨_, rfl⟩
  rw [← em] at hw hwm hPm
  obtain ⟨b1, eb⟩ : ∃ z, z = r := ⟨_, rfl⟩
  rw [← eb] at hw
  refine w_eql eb.symm ?_
  have hMm := congrArg Prod.snd hw
  have hb0 := congrArg Prod.fst hw
  dsimp only at hMm hb0
  have hb1 := hb0.symm
  refine lv_lstore (lv' := [(6, .long b1), (5, .int r0), (4, .int (nI (i))), (3, .ref qo), (2, .ref (am (0))), (1, .ref (ad (0))), (0, .ref b)]) hx hb dL_law_679 hl (by decide) rfl (fun ls hl => ?_)
  refine lv_goto (tgt := 880) hx hb dL_law_681 (by decide) ?_
  refine W.widen (k := cells + 3) (n := slots + 18) (by omega) (by omega) ?_
  rw [hz1] at hPc
  rw [hMm] at hPm hwm
  exact kk _ _ _ _ ⟨hPc, hPm, hPo, hS⟩ hwm (lv_sub hl [2, 3, 4, 5, 6] rfl)
set_option maxHeartbeats 4000000 in
set_option maxRecDepth 100000 in
theorem lc_18 {p : Program} {l : Launch} {e : Env} {s : State} {m : MethodId} {below : List Frame} {meth : Method} {c : Code} {b L : Nat} {xs : Nat → Int32} {dC : Nat → ClassId} {dI : Nat → Nat → Nat} {cA : Nat → ClassId} {ad am : Nat → Nat} {qo : Nat} (C : LCx p l s m c b L xs dC dI cA ad am qo) {Q : State → Prop} {cells slots i : Nat} (hi : i + 5 ≤ L) (hcc : cells + 3 ≤ 633746 ∧ slots + 18 ≤ 7194866) {Mc Mm : Mem} {fo : Nat → Int64} {H : Heap} {locs : List Loc} {ls : Array Slot} (hW : LWx s H locs dC dI cA ad am qo Mc Mm fo) (hwm : WFm Mm) (hl : lv_has ls 8 [(4, .int (nI (i))), (3, .ref qo), (2, .ref (am (0))), (1, .ref (ad (0))), (0, .ref b)])
    (kk : ∀ (H : Heap) (locs : List Loc) (ls : Array Slot) (fo : Nat → Int64), LWx s H locs dC dI cA ad am qo ((f_X5_distance Mc (xs (i + 1))).2.2) ((f_X6_distance Mm (xs (i + 1))).2) fo → WFm ((f_X6_distance Mm (xs (i + 1))).2) → lv_has ls 8 [(4, .int (nI (i))), (3, .ref qo), (2, .ref (am (0))), (1, .ref (ad (0))), (0, .ref b)] → W p l e room_1 s m #[Value.ref b] below meth c H locs (cells + 3) (slots + 18) Q (F0 m 880 ls [])) : W p l e room_1 s m #[Value.ref b] below meth c H locs cells slots Q (F0 m 684 ls []) := by
  obtain ⟨hx, hb, hml, hown, hts, hK, hKX, hNC, hfl, hX, hbl, hL, hI, hIm, hge, hgm, hgo, hap, hqc, hqm⟩ := C
  obtain ⟨hPc, hPm, hPo, hS⟩ := hW
  have hbA : ¬ (fun q : Nat => s.heap.size ≤ q) b := Nat.not_le.mpr hbl
  have hAm : ∀ q, adS 12 am q → s.heap.size ≤ q := fun q ⟨k, hk, e⟩ => e ▸ hgm k hk
  have hAc : ∀ q, adS 69 ad q → s.heap.size ≤ q := fun q ⟨k, hk, e⟩ => e ▸ hge k hk
  refine lv_aload_n hx hb dL_law_684 rfl (lv_at hl 3 rfl) ?_
  refine lv_aload_n hx hb dL_law_685 rfl (lv_at hl 4 rfl) ?_
  refine lv_iload hx hb dL_law_686 (lv_at hl 0 rfl) ?_
  refine lv_iconst (v := 1) hx hb dL_law_688 (by decide) ?_
  refine lv_iadd hx hb dL_law_689 ?_
  refine w_eqi (y := nI (i + 1)) (nI_add i 1) ?_
  refine va_sld hx hb hX hbl hbA hS (vp_in_nI (n := i + 1) (by omega) (by omega)) dL_law_690 ?_
  rw [nI_clamp (n := i + 1) (by omega)]
  refine lv_aload_n hx hb dL_law_691 rfl (lv_at hl 1 rfl) ?_
  refine kW hx hb hml hown hts hK hPc hPo hS hKX hNC hge hgo (As := [.ref (ad (0)), .int (xs (i + 1)), .ref qo]) (rest := []) (c_L_distance l hfl dC dI cA ad hI qo hqc Mc fo (xs (i + 1))) (mkSW hts q_719 q_46 q_717 q_718 hyL_distance rfl rfl ⟨(Nat.le_of_ble_eq_true rfl), (Nat.le_of_ble_eq_true rfl)⟩) rfl hl.1 rfl (Nat.le_of_ble_eq_true rfl) dL_law_692 ⟨by show cells + 2 ≤ 633746; omega, by show slots + 12 ≤ 7194866; omega⟩ (fun r z H locs hw hPc hPo hS _ hk => ?_)
  obtain ⟨Mc1, fo1⟩ := z
  obtain ⟨r0, er⟩ : ∃ z, z = r := ⟨_, rfl⟩
  rw [← er] at hw
  refine w_eqi er.symm ?_
  obtain ⟨hr, hz1, hv1⟩ := hw
  dsimp only at hz1 hv1 hPc hPo
  have hPm := wld_kept hPm (B := adW ad qo) (fun k hk9 h => h.elim (fun ⟨j, hj, e⟩ => hap j k hj hk9 e.symm) (fun e => hqm k hk9 e.symm)) hk
  refine lv_istore (lv' := [(5, .int r0), (4, .int (nI (i))), (3, .ref qo), (2, .ref (am (0))), (1, .ref (ad (0))), (0, .ref b)]) hx hb dL_law_695 hl (by decide) rfl (fun ls hl => ?_)
  refine lv_aload_n hx hb dL_law_697 rfl (lv_at hl 3 rfl) ?_
  refine lv_aload_n hx hb dL_law_698 rfl (lv_at hl 5 rfl) ?_
  refine lv_iload hx hb dL_law_699 (lv_at hl 1 rfl) ?_
  refine lv_iconst (v := 1) hx hb dL_law_701 (by decide) ?_
  refine lv_iadd hx hb dL_law_702 ?_
  refine w_eqi (y := nI (i + 1)) (nI_add i 1) ?_
  refine va_sld hx hb hX hbl hbA hS (vp_in_nI (n := i + 1) (by omega) (by omega)) dL_law_703 ?_
  rw [nI_clamp (n := i + 1) (by omega)]
  refine kVl hx hb hml hown hts hK hPm hS hAm (As := [.int (xs (i + 1))]) (rest := []) (c_X6_distance l dC dI cA am hIm Mm (xs (i + 1)) hwm) (mkV hts q_1044 q_53 q_1041 q_1042 q_1043 hyX6_distance rfl rfl ⟨(Nat.le_of_ble_eq_true rfl), (Nat.le_of_ble_eq_true rfl)⟩) (w_recv hK hPm (k := 0) (by decide) lyM0 (q := (RX6, TX6, 26)) rfl) rfl hl.1 rfl (Nat.le_of_ble_eq_true rfl) dL_law_704 ⟨by show cells + 2 ≤ 633746; omega, by show slots + 12 ≤ 7194866; omega⟩ (fun r u H locs hw hPm hS _ hk => ?_)
  have hPc := wld_kept hPc (B := adS 12 am) (fun k hk9 ⟨j, hj, e⟩ => hap k j hk9 hj e) hk
  have hPo := outB_kept hPo (B := adS 12 am) (fun ⟨j, hj, e⟩ => hqm j hj e) hk
  obtain ⟨hw, hwm⟩ := hw
  obtain ⟨Mm1, em⟩ : ∃ z, z = u := ⟨_, rfl⟩
  rw [← em] at hw hwm hPm
  obtain ⟨b1, eb⟩ : ∃ z, z = r := ⟨_, rfl⟩
  rw [← eb] at hw
  refine w_eql eb.symm ?_
  have hMm := congrArg Prod.snd hw
  have hb0 := congrArg Prod.fst hw
  dsimp only at hMm hb0
  have hb1 := hb0.symm
  refine lv_lstore (lv' := [(6, .long b1), (5, .int r0), (4, .int (nI (i))), (3, .ref qo), (2, .ref (am (0))), (1, .ref (ad (0))), (0, .ref b)]) hx hb dL_law_707 hl (by decide) rfl (fun ls hl => ?_)
  refine lv_goto (tgt := 880) hx hb dL_law_709 (by decide) ?_
  refine W.widen (k := cells + 3) (n := slots + 18) (by omega) (by omega) ?_
  rw [hz1] at hPc
  rw [hMm] at hPm hwm
  exact kk _ _ _ _ ⟨hPc, hPm, hPo, hS⟩ hwm (lv_sub hl [2, 3, 4, 5, 6] rfl)
set_option maxHeartbeats 4000000 in
set_option maxRecDepth 100000 in
theorem lc_19 {p : Program} {l : Launch} {e : Env} {s : State} {m : MethodId} {below : List Frame} {meth : Method} {c : Code} {b L : Nat} {xs : Nat → Int32} {dC : Nat → ClassId} {dI : Nat → Nat → Nat} {cA : Nat → ClassId} {ad am : Nat → Nat} {qo : Nat} (C : LCx p l s m c b L xs dC dI cA ad am qo) {Q : State → Prop} {cells slots i : Nat} (hi : i + 5 ≤ L) (hcc : cells + 3 ≤ 633746 ∧ slots + 18 ≤ 7194866) {Mc Mm : Mem} {fo : Nat → Int64} {H : Heap} {locs : List Loc} {ls : Array Slot} (hW : LWx s H locs dC dI cA ad am qo Mc Mm fo) (hwm : WFm Mm) (hl : lv_has ls 8 [(4, .int (nI (i))), (3, .ref qo), (2, .ref (am (0))), (1, .ref (ad (0))), (0, .ref b)])
    (kk : ∀ (H : Heap) (locs : List Loc) (ls : Array Slot) (fo : Nat → Int64), LWx s H locs dC dI cA ad am qo ((f_X5_agreement Mc).2) ((f_X6_agreement Mm).2) fo → WFm ((f_X6_agreement Mm).2) → lv_has ls 8 [(4, .int (nI (i))), (3, .ref qo), (2, .ref (am (0))), (1, .ref (ad (0))), (0, .ref b)] → W p l e room_1 s m #[Value.ref b] below meth c H locs (cells + 3) (slots + 18) Q (F0 m 880 ls [])) : W p l e room_1 s m #[Value.ref b] below meth c H locs cells slots Q (F0 m 712 ls []) := by
  obtain ⟨hx, hb, hml, hown, hts, hK, hKX, hNC, hfl, hX, hbl, hL, hI, hIm, hge, hgm, hgo, hap, hqc, hqm⟩ := C
  obtain ⟨hPc, hPm, hPo, hS⟩ := hW
  have hbA : ¬ (fun q : Nat => s.heap.size ≤ q) b := Nat.not_le.mpr hbl
  have hAm : ∀ q, adS 12 am q → s.heap.size ≤ q := fun q ⟨k, hk, e⟩ => e ▸ hgm k hk
  have hAc : ∀ q, adS 69 ad q → s.heap.size ≤ q := fun q ⟨k, hk, e⟩ => e ▸ hge k hk
  refine lv_aload_n hx hb dL_law_712 rfl (lv_at hl 3 rfl) ?_
  refine kVi hx hb hml hown hts hK hPc hS hAc (As := []) (rest := []) (c_X5_agreement l dC dI cA ad hI Mc) (mkV hts q_291 q_47 q_288 q_289 q_290 hyX5_agreement rfl rfl ⟨(Nat.le_of_ble_eq_true rfl), (Nat.le_of_ble_eq_true rfl)⟩) (w_recv hK hPc (k := 0) (by decide) lyC0 (q := (RX5, TX5, 10)) rfl) rfl hl.1 rfl (Nat.le_of_ble_eq_true rfl) dL_law_713 ⟨by show cells ≤ 633746; omega, by show slots ≤ 7194866; omega⟩ (fun r u H locs hw hPc hS _ hk => ?_)
  have hPm := wld_kept hPm (B := adS 69 ad) (fun k hk9 ⟨j, hj, e⟩ => hap j k hj hk9 e.symm) hk
  have hPo := outB_kept hPo (B := adS 69 ad) (fun ⟨j, hj, e⟩ => hqc j hj e) hk
  obtain ⟨Mc1, ec⟩ : ∃ z, z = u := ⟨_, rfl⟩
  rw [← ec] at hw hPc
  obtain ⟨a1, ea⟩ : ∃ z, z = r := ⟨_, rfl⟩
  rw [← ea] at hw
  refine w_eqi ea.symm ?_
  have hz1 := congrArg Prod.snd hw
  have ha0 := congrArg Prod.fst hw
  dsimp only at hz1 ha0
  refine lv_pop hx hb dL_law_716 rfl ?_
  refine lv_aload_n hx hb dL_law_717 rfl (lv_at hl 2 rfl) ?_
  refine kVi hx hb hml hown hts hK hPm hS hAm (As := []) (rest := []) (c_X6_agreement l dC dI cA am hIm Mm  hwm) (mkV hts q_1053 q_53 q_1050 q_1051 q_1052 hyX6_agreement rfl rfl ⟨(Nat.le_of_ble_eq_true rfl), (Nat.le_of_ble_eq_true rfl)⟩) (w_recv hK hPm (k := 0) (by decide) lyM0 (q := (RX6, TX6, 26)) rfl) rfl hl.1 rfl (Nat.le_of_ble_eq_true rfl) dL_law_718 ⟨by show cells ≤ 633746; omega, by show slots ≤ 7194866; omega⟩ (fun r u H locs hw hPm hS _ hk => ?_)
  have hPc := wld_kept hPc (B := adS 12 am) (fun k hk9 ⟨j, hj, e⟩ => hap k j hk9 hj e) hk
  have hPo := outB_kept hPo (B := adS 12 am) (fun ⟨j, hj, e⟩ => hqm j hj e) hk
  obtain ⟨hw, hwm⟩ := hw
  obtain ⟨Mm1, em⟩ : ∃ z, z = u := ⟨_, rfl⟩
  rw [← em] at hw hwm hPm
  obtain ⟨b1, eb⟩ : ∃ z, z = r := ⟨_, rfl⟩
  rw [← eb] at hw
  refine w_eqi eb.symm ?_
  have hMm := congrArg Prod.snd hw
  have hb0 := congrArg Prod.fst hw
  dsimp only at hMm hb0
  refine lv_pop hx hb dL_law_721 rfl ?_
  refine lv_goto (tgt := 880) hx hb dL_law_722 (by decide) ?_
  refine W.widen (k := cells + 3) (n := slots + 18) (by omega) (by omega) ?_
  rw [hz1] at hPc
  rw [hMm] at hPm hwm
  exact kk _ _ _ _ ⟨hPc, hPm, hPo, hS⟩ hwm (lv_sub hl [0, 1, 2, 3, 4] rfl)
set_option maxHeartbeats 4000000 in
set_option maxRecDepth 100000 in
theorem lc_20 {p : Program} {l : Launch} {e : Env} {s : State} {m : MethodId} {below : List Frame} {meth : Method} {c : Code} {b L : Nat} {xs : Nat → Int32} {dC : Nat → ClassId} {dI : Nat → Nat → Nat} {cA : Nat → ClassId} {ad am : Nat → Nat} {qo : Nat} (C : LCx p l s m c b L xs dC dI cA ad am qo) {Q : State → Prop} {cells slots i : Nat} (hi : i + 5 ≤ L) (hcc : cells + 3 ≤ 633746 ∧ slots + 18 ≤ 7194866) {Mc Mm : Mem} {fo : Nat → Int64} {H : Heap} {locs : List Loc} {ls : Array Slot} (hW : LWx s H locs dC dI cA ad am qo Mc Mm fo) (hwm : WFm Mm) (hl : lv_has ls 8 [(4, .int (nI (i))), (3, .ref qo), (2, .ref (am (0))), (1, .ref (ad (0))), (0, .ref b)])
    (kk : ∀ (H : Heap) (locs : List Loc) (ls : Array Slot) (fo : Nat → Int64), LWx s H locs dC dI cA ad am qo ((f_X5_hasMajority Mc).2) ((f_X6_hasMajority Mm).2) fo → WFm ((f_X6_hasMajority Mm).2) → lv_has ls 8 [(4, .int (nI (i))), (3, .ref qo), (2, .ref (am (0))), (1, .ref (ad (0))), (0, .ref b)] → W p l e room_1 s m #[Value.ref b] below meth c H locs (cells + 3) (slots + 18) Q (F0 m 880 ls [])) : W p l e room_1 s m #[Value.ref b] below meth c H locs cells slots Q (F0 m 725 ls []) := by
  obtain ⟨hx, hb, hml, hown, hts, hK, hKX, hNC, hfl, hX, hbl, hL, hI, hIm, hge, hgm, hgo, hap, hqc, hqm⟩ := C
  obtain ⟨hPc, hPm, hPo, hS⟩ := hW
  have hbA : ¬ (fun q : Nat => s.heap.size ≤ q) b := Nat.not_le.mpr hbl
  have hAm : ∀ q, adS 12 am q → s.heap.size ≤ q := fun q ⟨k, hk, e⟩ => e ▸ hgm k hk
  have hAc : ∀ q, adS 69 ad q → s.heap.size ≤ q := fun q ⟨k, hk, e⟩ => e ▸ hge k hk
  refine lv_aload_n hx hb dL_law_725 rfl (lv_at hl 3 rfl) ?_
  refine kVi hx hb hml hown hts hK hPc hS hAc (As := []) (rest := []) (c_X5_hasMajority l dC dI cA ad hI Mc) (mkV hts q_402 q_47 q_399 q_400 q_401 hyX5_hasMajority rfl rfl ⟨(Nat.le_of_ble_eq_true rfl), (Nat.le_of_ble_eq_true rfl)⟩) (w_recv hK hPc (k := 0) (by decide) lyC0 (q := (RX5, TX5, 10)) rfl) rfl hl.1 rfl (Nat.le_of_ble_eq_true rfl) dL_law_726 ⟨by show cells ≤ 633746; omega, by show slots ≤ 7194866; omega⟩ (fun r u H locs hw hPc hS _ hk => ?_)
  have hPm := wld_kept hPm (B := adS 69 ad) (fun k hk9 ⟨j, hj, e⟩ => hap j k hj hk9 e.symm) hk
  have hPo := outB_kept hPo (B := adS 69 ad) (fun ⟨j, hj, e⟩ => hqc j hj e) hk
  obtain ⟨Mc1, ec⟩ : ∃ z, z = u := ⟨_, rfl⟩
  rw [← ec] at hw hPc
  obtain ⟨a1, ea⟩ : ∃ z, z = r := ⟨_, rfl⟩
  rw [← ea] at hw
  refine w_eqi ea.symm ?_
  have hz1 := congrArg Prod.snd hw
  have ha0 := congrArg Prod.fst hw
  dsimp only at hz1 ha0
  refine lv_pop hx hb dL_law_729 rfl ?_
  refine lv_aload_n hx hb dL_law_730 rfl (lv_at hl 2 rfl) ?_
  refine kVi hx hb hml hown hts hK hPm hS hAm (As := []) (rest := []) (c_X6_hasMajority l dC dI cA am hIm Mm  hwm) (mkV hts q_1077 q_53 q_1074 q_1075 q_1076 hyX6_hasMajority rfl rfl ⟨(Nat.le_of_ble_eq_true rfl), (Nat.le_of_ble_eq_true rfl)⟩) (w_recv hK hPm (k := 0) (by decide) lyM0 (q := (RX6, TX6, 26)) rfl) rfl hl.1 rfl (Nat.le_of_ble_eq_true rfl) dL_law_731 ⟨by show cells ≤ 633746; omega, by show slots ≤ 7194866; omega⟩ (fun r u H locs hw hPm hS _ hk => ?_)
  have hPc := wld_kept hPc (B := adS 12 am) (fun k hk9 ⟨j, hj, e⟩ => hap k j hk9 hj e) hk
  have hPo := outB_kept hPo (B := adS 12 am) (fun ⟨j, hj, e⟩ => hqm j hj e) hk
  obtain ⟨hw, hwm⟩ := hw
  obtain ⟨Mm1, em⟩ : ∃ z, z = u := ⟨_, rfl⟩
  rw [← em] at hw hwm hPm
  obtain ⟨b1, eb⟩ : ∃ z, z = r := ⟨_, rfl⟩
  rw [← eb] at hw
  refine w_eqi eb.symm ?_
  have hMm := congrArg Prod.snd hw
  have hb0 := congrArg Prod.fst hw
  dsimp only at hMm hb0
  refine lv_pop hx hb dL_law_734 rfl ?_
  refine lv_goto (tgt := 880) hx hb dL_law_735 (by decide) ?_
  refine W.widen (k := cells + 3) (n := slots + 18) (by omega) (by omega) ?_
  rw [hz1] at hPc
  rw [hMm] at hPm hwm
  exact kk _ _ _ _ ⟨hPc, hPm, hPo, hS⟩ hwm (lv_sub hl [0, 1, 2, 3, 4] rfl)
set_option maxHeartbeats 4000000 in
set_option maxRecDepth 100000 in
theorem lc_21 {p : Program} {l : Launch} {e : Env} {s : State} {m : MethodId} {below : List Frame} {meth : Method} {c : Code} {b L : Nat} {xs : Nat → Int32} {dC : Nat → ClassId} {dI : Nat → Nat → Nat} {cA : Nat → ClassId} {ad am : Nat → Nat} {qo : Nat} (C : LCx p l s m c b L xs dC dI cA ad am qo) {Q : State → Prop} {cells slots i : Nat} (hi : i + 5 ≤ L) (hcc : cells + 3 ≤ 633746 ∧ slots + 18 ≤ 7194866) {Mc Mm : Mem} {fo : Nat → Int64} {H : Heap} {locs : List Loc} {ls : Array Slot} (hW : LWx s H locs dC dI cA ad am qo Mc Mm fo) (hwm : WFm Mm) (hl : lv_has ls 8 [(4, .int (nI (i))), (3, .ref qo), (2, .ref (am (0))), (1, .ref (ad (0))), (0, .ref b)])
    (kk : ∀ (H : Heap) (locs : List Loc) (ls : Array Slot) (fo : Nat → Int64), LWx s H locs dC dI cA ad am qo ((f_X5_agreeing Mc).2) ((f_X6_agreeing Mm).2) fo → WFm ((f_X6_agreeing Mm).2) → lv_has ls 8 [(4, .int (nI (i))), (3, .ref qo), (2, .ref (am (0))), (1, .ref (ad (0))), (0, .ref b)] → W p l e room_1 s m #[Value.ref b] below meth c H locs (cells + 3) (slots + 18) Q (F0 m 880 ls [])) : W p l e room_1 s m #[Value.ref b] below meth c H locs cells slots Q (F0 m 738 ls []) := by
  obtain ⟨hx, hb, hml, hown, hts, hK, hKX, hNC, hfl, hX, hbl, hL, hI, hIm, hge, hgm, hgo, hap, hqc, hqm⟩ := C
  obtain ⟨hPc, hPm, hPo, hS⟩ := hW
  have hbA : ¬ (fun q : Nat => s.heap.size ≤ q) b := Nat.not_le.mpr hbl
  have hAm : ∀ q, adS 12 am q → s.heap.size ≤ q := fun q ⟨k, hk, e⟩ => e ▸ hgm k hk
  have hAc : ∀ q, adS 69 ad q → s.heap.size ≤ q := fun q ⟨k, hk, e⟩ => e ▸ hge k hk
  refine lv_aload_n hx hb dL_law_738 rfl (lv_at hl 3 rfl) ?_
  refine kVi hx hb hml hown hts hK hPc hS hAc (As := []) (rest := []) (c_X5_agreeing l dC dI cA ad hI Mc) (mkV hts q_411 q_47 q_408 q_409 q_410 hyX5_agreeing rfl rfl ⟨(Nat.le_of_ble_eq_true rfl), (Nat.le_of_ble_eq_true rfl)⟩) (w_recv hK hPc (k := 0) (by decide) lyC0 (q := (RX5, TX5, 10)) rfl) rfl hl.1 rfl (Nat.le_of_ble_eq_true rfl) dL_law_739 ⟨by show cells ≤ 633746; omega, by show slots ≤ 7194866; omega⟩ (fun r u H locs hw hPc hS _ hk => ?_)
  have hPm := wld_kept hPm (B := adS 69 ad) (fun k hk9 ⟨j, hj, e⟩ => hap j k hj hk9 e.symm) hk
  have hPo := outB_kept hPo (B := adS 69 ad) (fun ⟨j, hj, e⟩ => hqc j hj e) hk
  obtain ⟨Mc1, ec⟩ : ∃ z, z = u := ⟨_, rfl⟩
  rw [← ec] at hw hPc
  obtain ⟨a1, ea⟩ : ∃ z, z = r := ⟨_, rfl⟩
  rw [← ea] at hw
  refine w_eqi ea.symm ?_
  have hz1 := congrArg Prod.snd hw
  have ha0 := congrArg Prod.fst hw
  dsimp only at hz1 ha0
  refine lv_pop hx hb dL_law_742 rfl ?_
  refine lv_aload_n hx hb dL_law_743 rfl (lv_at hl 2 rfl) ?_
  refine kVi hx hb hml hown hts hK hPm hS hAm (As := []) (rest := []) (c_X6_agreeing l dC dI cA am hIm Mm  hwm) (mkV hts q_1081 q_53 q_1078 q_1079 q_1080 hyX6_agreeing rfl rfl ⟨(Nat.le_of_ble_eq_true rfl), (Nat.le_of_ble_eq_true rfl)⟩) (w_recv hK hPm (k := 0) (by decide) lyM0 (q := (RX6, TX6, 26)) rfl) rfl hl.1 rfl (Nat.le_of_ble_eq_true rfl) dL_law_744 ⟨by show cells ≤ 633746; omega, by show slots ≤ 7194866; omega⟩ (fun r u H locs hw hPm hS _ hk => ?_)
  have hPc := wld_kept hPc (B := adS 12 am) (fun k hk9 ⟨j, hj, e⟩ => hap k j hk9 hj e) hk
  have hPo := outB_kept hPo (B := adS 12 am) (fun ⟨j, hj, e⟩ => hqm j hj e) hk
  obtain ⟨hw, hwm⟩ := hw
  obtain ⟨Mm1, em⟩ : ∃ z, z = u := ⟨_, rfl⟩
  rw [← em] at hw hwm hPm
  obtain ⟨b1, eb⟩ : ∃ z, z = r := ⟨_, rfl⟩
  rw [← eb] at hw
  refine w_eqi eb.symm ?_
  have hMm := congrArg Prod.snd hw
  have hb0 := congrArg Prod.fst hw
  dsimp only at hMm hb0
  refine lv_pop hx hb dL_law_747 rfl ?_
  refine lv_goto (tgt := 880) hx hb dL_law_748 (by decide) ?_
  refine W.widen (k := cells + 3) (n := slots + 18) (by omega) (by omega) ?_
  rw [hz1] at hPc
  rw [hMm] at hPm hwm
  exact kk _ _ _ _ ⟨hPc, hPm, hPo, hS⟩ hwm (lv_sub hl [0, 1, 2, 3, 4] rfl)
set_option maxHeartbeats 4000000 in
set_option maxRecDepth 100000 in
theorem lc_22 {p : Program} {l : Launch} {e : Env} {s : State} {m : MethodId} {below : List Frame} {meth : Method} {c : Code} {b L : Nat} {xs : Nat → Int32} {dC : Nat → ClassId} {dI : Nat → Nat → Nat} {cA : Nat → ClassId} {ad am : Nat → Nat} {qo : Nat} (C : LCx p l s m c b L xs dC dI cA ad am qo) {Q : State → Prop} {cells slots i : Nat} (hi : i + 5 ≤ L) (hcc : cells + 3 ≤ 633746 ∧ slots + 18 ≤ 7194866) {Mc Mm : Mem} {fo : Nat → Int64} {H : Heap} {locs : List Loc} {ls : Array Slot} (hW : LWx s H locs dC dI cA ad am qo Mc Mm fo) (hwm : WFm Mm) (hl : lv_has ls 8 [(4, .int (nI (i))), (3, .ref qo), (2, .ref (am (0))), (1, .ref (ad (0))), (0, .ref b)])
    (kk : ∀ (H : Heap) (locs : List Loc) (ls : Array Slot) (fo : Nat → Int64), LWx s H locs dC dI cA ad am qo ((f_X5_low Mc).2.2) ((f_X6_low Mm).2) fo → WFm ((f_X6_low Mm).2) → lv_has ls 8 [(4, .int (nI (i))), (3, .ref qo), (2, .ref (am (0))), (1, .ref (ad (0))), (0, .ref b)] → W p l e room_1 s m #[Value.ref b] below meth c H locs (cells + 3) (slots + 18) Q (F0 m 880 ls [])) : W p l e room_1 s m #[Value.ref b] below meth c H locs cells slots Q (F0 m 751 ls []) := by
  obtain ⟨hx, hb, hml, hown, hts, hK, hKX, hNC, hfl, hX, hbl, hL, hI, hIm, hge, hgm, hgo, hap, hqc, hqm⟩ := C
  obtain ⟨hPc, hPm, hPo, hS⟩ := hW
  have hbA : ¬ (fun q : Nat => s.heap.size ≤ q) b := Nat.not_le.mpr hbl
  have hAm : ∀ q, adS 12 am q → s.heap.size ≤ q := fun q ⟨k, hk, e⟩ => e ▸ hgm k hk
  have hAc : ∀ q, adS 69 ad q → s.heap.size ≤ q := fun q ⟨k, hk, e⟩ => e ▸ hge k hk
  refine lv_aload_n hx hb dL_law_751 rfl (lv_at hl 3 rfl) ?_
  refine lv_aload_n hx hb dL_law_752 rfl (lv_at hl 1 rfl) ?_
  refine kW hx hb hml hown hts hK hPc hPo hS hKX hNC hge hgo (As := [.ref (ad (0)), .ref qo]) (rest := []) (c_L_low l hfl dC dI cA ad hI qo hqc Mc fo ) (mkSW hts q_727 q_46 q_725 q_726 hyL_low rfl rfl ⟨(Nat.le_of_ble_eq_true rfl), (Nat.le_of_ble_eq_true rfl)⟩) rfl hl.1 rfl (Nat.le_of_ble_eq_true rfl) dL_law_753 ⟨by show cells + 1 ≤ 633746; omega, by show slots + 6 ≤ 7194866; omega⟩ (fun r z H locs hw hPc hPo hS _ hk => ?_)
  obtain ⟨Mc1, fo1⟩ := z
  obtain ⟨r0, er⟩ : ∃ z, z = r := ⟨_, rfl⟩
  rw [← er] at hw
  refine w_eqi er.symm ?_
  obtain ⟨hr, hz1, hv1⟩ := hw
  dsimp only at hz1 hv1 hPc hPo
  have hPm := wld_kept hPm (B := adW ad qo) (fun k hk9 h => h.elim (fun ⟨j, hj, e⟩ => hap j k hj hk9 e.symm) (fun e => hqm k hk9 e.symm)) hk
  refine lv_istore (lv' := [(5, .int r0), (4, .int (nI (i))), (3, .ref qo), (2, .ref (am (0))), (1, .ref (ad (0))), (0, .ref b)]) hx hb dL_law_756 hl (by decide) rfl (fun ls hl => ?_)
  refine lv_aload_n hx hb dL_law_758 rfl (lv_at hl 3 rfl) ?_
  refine kVl hx hb hml hown hts hK hPm hS hAm (As := []) (rest := []) (c_X6_low l dC dI cA am hIm Mm  hwm) (mkV hts q_1088 q_53 q_1085 q_1086 q_1087 hyX6_low rfl rfl ⟨(Nat.le_of_ble_eq_true rfl), (Nat.le_of_ble_eq_true rfl)⟩) (w_recv hK hPm (k := 0) (by decide) lyM0 (q := (RX6, TX6, 26)) rfl) rfl hl.1 rfl (Nat.le_of_ble_eq_true rfl) dL_law_759 ⟨by show cells + 1 ≤ 633746; omega, by show slots + 6 ≤ 7194866; omega⟩ (fun r u H locs hw hPm hS _ hk => ?_)
  have hPc := wld_kept hPc (B := adS 12 am) (fun k hk9 ⟨j, hj, e⟩ => hap k j hk9 hj e) hk
  have hPo := outB_kept hPo (B := adS 12 am) (fun ⟨j, hj, e⟩ => hqm j hj e) hk
  obtain ⟨hw, hwm⟩ := hw
  obtain ⟨Mm1, em⟩ : ∃ z, z = u := ⟨_, rfl⟩
  rw [← em] at hw hwm hPm
  obtain ⟨b1, eb⟩ : ∃ z, z = r := ⟨_, rfl⟩
  rw [← eb] at hw
  refine w_eql eb.symm ?_
  have hMm := congrArg Prod.snd hw
  have hb0 := congrArg Prod.fst hw
  dsimp only at hMm hb0
  have hb1 := hb0.symm
  refine lv_lstore (lv' := [(6, .long b1), (5, .int r0), (4, .int (nI (i))), (3, .ref qo), (2, .ref (am (0))), (1, .ref (ad (0))), (0, .ref b)]) hx hb dL_law_762 hl (by decide) rfl (fun ls hl => ?_)
  refine lv_goto (tgt := 880) hx hb dL_law_764 (by decide) ?_
  refine W.widen (k := cells + 3) (n := slots + 18) (by omega) (by omega) ?_
  rw [hz1] at hPc
  rw [hMm] at hPm hwm
  exact kk _ _ _ _ ⟨hPc, hPm, hPo, hS⟩ hwm (lv_sub hl [2, 3, 4, 5, 6] rfl)
set_option maxHeartbeats 4000000 in
set_option maxRecDepth 100000 in
theorem lc_23 {p : Program} {l : Launch} {e : Env} {s : State} {m : MethodId} {below : List Frame} {meth : Method} {c : Code} {b L : Nat} {xs : Nat → Int32} {dC : Nat → ClassId} {dI : Nat → Nat → Nat} {cA : Nat → ClassId} {ad am : Nat → Nat} {qo : Nat} (C : LCx p l s m c b L xs dC dI cA ad am qo) {Q : State → Prop} {cells slots i : Nat} (hi : i + 5 ≤ L) (hcc : cells + 3 ≤ 633746 ∧ slots + 18 ≤ 7194866) {Mc Mm : Mem} {fo : Nat → Int64} {H : Heap} {locs : List Loc} {ls : Array Slot} (hW : LWx s H locs dC dI cA ad am qo Mc Mm fo) (hwm : WFm Mm) (hl : lv_has ls 8 [(4, .int (nI (i))), (3, .ref qo), (2, .ref (am (0))), (1, .ref (ad (0))), (0, .ref b)])
    (kk : ∀ (H : Heap) (locs : List Loc) (ls : Array Slot) (fo : Nat → Int64), LWx s H locs dC dI cA ad am qo ((f_X5_high Mc).2.2) ((f_X6_high Mm).2) fo → WFm ((f_X6_high Mm).2) → lv_has ls 8 [(4, .int (nI (i))), (3, .ref qo), (2, .ref (am (0))), (1, .ref (ad (0))), (0, .ref b)] → W p l e room_1 s m #[Value.ref b] below meth c H locs (cells + 3) (slots + 18) Q (F0 m 880 ls [])) : W p l e room_1 s m #[Value.ref b] below meth c H locs cells slots Q (F0 m 767 ls []) := by
  obtain ⟨hx, hb, hml, hown, hts, hK, hKX, hNC, hfl, hX, hbl, hL, hI, hIm, hge, hgm, hgo, hap, hqc, hqm⟩ := C
  obtain ⟨hPc, hPm, hPo, hS⟩ := hW
  have hbA : ¬ (fun q : Nat => s.heap.size ≤ q) b := Nat.not_le.mpr hbl
  have hAm : ∀ q, adS 12 am q → s.heap.size ≤ q := fun q ⟨k, hk, e⟩ => e ▸ hgm k hk
  have hAc : ∀ q, adS 69 ad q → s.heap.size ≤ q := fun q ⟨k, hk, e⟩ => e ▸ hge k hk
  refine lv_aload_n hx hb dL_law_767 rfl (lv_at hl 3 rfl) ?_
  refine lv_aload_n hx hb dL_law_768 rfl (lv_at hl 1 rfl) ?_
  refine kW hx hb hml hown hts hK hPc hPo hS hKX hNC hge hgo (As := [.ref (ad (0)), .ref qo]) (rest := []) (c_L_high l hfl dC dI cA ad hI qo hqc Mc fo ) (mkSW hts q_746 q_46 q_744 q_745 hyL_high rfl rfl ⟨(Nat.le_of_ble_eq_true rfl), (Nat.le_of_ble_eq_true rfl)⟩) rfl hl.1 rfl (Nat.le_of_ble_eq_true rfl) dL_law_769 ⟨by show cells + 1 ≤ 633746; omega, by show slots + 6 ≤ 7194866; omega⟩ (fun r z H locs hw hPc hPo hS _ hk => ?_)
  obtain ⟨Mc1, fo1⟩ := z
  obtain ⟨r0, er⟩ : ∃ z, z = r := ⟨_, rfl⟩
  rw [← er] at hw
  refine w_eqi er.symm ?_
  obtain ⟨hr, hz1, hv1⟩ := hw
  dsimp only at hz1 hv1 hPc hPo
  have hPm := wld_kept hPm (B := adW ad qo) (fun k hk9 h => h.elim (fun ⟨j, hj, e⟩ => hap j k hj hk9 e.symm) (fun e => hqm k hk9 e.symm)) hk
  refine lv_istore (lv' := [(5, .int r0), (4, .int (nI (i))), (3, .ref qo), (2, .ref (am (0))), (1, .ref (ad (0))), (0, .ref b)]) hx hb dL_law_772 hl (by decide) rfl (fun ls hl => ?_)
  refine lv_aload_n hx hb dL_law_774 rfl (lv_at hl 3 rfl) ?_
  refine kVl hx hb hml hown hts hK hPm hS hAm (As := []) (rest := []) (c_X6_high l dC dI cA am hIm Mm  hwm) (mkV hts q_1092 q_53 q_1089 q_1090 q_1091 hyX6_high rfl rfl ⟨(Nat.le_of_ble_eq_true rfl), (Nat.le_of_ble_eq_true rfl)⟩) (w_recv hK hPm (k := 0) (by decide) lyM0 (q := (RX6, TX6, 26)) rfl) rfl hl.1 rfl (Nat.le_of_ble_eq_true rfl) dL_law_775 ⟨by show cells + 1 ≤ 633746; omega, by show slots + 6 ≤ 7194866; omega⟩ (fun r u H locs hw hPm hS _ hk => ?_)
  have hPc := wld_kept hPc (B := adS 12 am) (fun k hk9 ⟨j, hj, e⟩ => hap k j hk9 hj e) hk
  have hPo := outB_kept hPo (B := adS 12 am) (fun ⟨j, hj, e⟩ => hqm j hj e) hk
  obtain ⟨hw, hwm⟩ := hw
  obtain ⟨Mm1, em⟩ : ∃ z, z = u := ⟨_, rfl⟩
  rw [← em] at hw hwm hPm
  obtain ⟨b1, eb⟩ : ∃ z, z = r := ⟨_, rfl⟩
  rw [← eb] at hw
  refine w_eql eb.symm ?_
  have hMm := congrArg Prod.snd hw
  have hb0 := congrArg Prod.fst hw
  dsimp only at hMm hb0
  have hb1 := hb0.symm
  refine lv_lstore (lv' := [(6, .long b1), (5, .int r0), (4, .int (nI (i))), (3, .ref qo), (2, .ref (am (0))), (1, .ref (ad (0))), (0, .ref b)]) hx hb dL_law_778 hl (by decide) rfl (fun ls hl => ?_)
  refine lv_goto (tgt := 880) hx hb dL_law_780 (by decide) ?_
  refine W.widen (k := cells + 3) (n := slots + 18) (by omega) (by omega) ?_
  rw [hz1] at hPc
  rw [hMm] at hPm hwm
  exact kk _ _ _ _ ⟨hPc, hPm, hPo, hS⟩ hwm (lv_sub hl [2, 3, 4, 5, 6] rfl)
set_option maxHeartbeats 4000000 in
set_option maxRecDepth 100000 in
theorem lc_24 {p : Program} {l : Launch} {e : Env} {s : State} {m : MethodId} {below : List Frame} {meth : Method} {c : Code} {b L : Nat} {xs : Nat → Int32} {dC : Nat → ClassId} {dI : Nat → Nat → Nat} {cA : Nat → ClassId} {ad am : Nat → Nat} {qo : Nat} (C : LCx p l s m c b L xs dC dI cA ad am qo) {Q : State → Prop} {cells slots i : Nat} (hi : i + 5 ≤ L) (hcc : cells + 3 ≤ 633746 ∧ slots + 18 ≤ 7194866) {Mc Mm : Mem} {fo : Nat → Int64} {H : Heap} {locs : List Loc} {ls : Array Slot} (hW : LWx s H locs dC dI cA ad am qo Mc Mm fo) (hwm : WFm Mm) (hl : lv_has ls 8 [(4, .int (nI (i))), (3, .ref qo), (2, .ref (am (0))), (1, .ref (ad (0))), (0, .ref b)])
    (kk : ∀ (H : Heap) (locs : List Loc) (ls : Array Slot) (fo : Nat → Int64), LWx s H locs dC dI cA ad am qo ((f_X5_survivors Mc).2) ((f_X6_survivors Mm).2) fo → WFm ((f_X6_survivors Mm).2) → lv_has ls 8 [(4, .int (nI (i))), (3, .ref qo), (2, .ref (am (0))), (1, .ref (ad (0))), (0, .ref b)] → W p l e room_1 s m #[Value.ref b] below meth c H locs (cells + 3) (slots + 18) Q (F0 m 880 ls [])) : W p l e room_1 s m #[Value.ref b] below meth c H locs cells slots Q (F0 m 783 ls []) := by
  obtain ⟨hx, hb, hml, hown, hts, hK, hKX, hNC, hfl, hX, hbl, hL, hI, hIm, hge, hgm, hgo, hap, hqc, hqm⟩ := C
  obtain ⟨hPc, hPm, hPo, hS⟩ := hW
  have hbA : ¬ (fun q : Nat => s.heap.size ≤ q) b := Nat.not_le.mpr hbl
  have hAm : ∀ q, adS 12 am q → s.heap.size ≤ q := fun q ⟨k, hk, e⟩ => e ▸ hgm k hk
  have hAc : ∀ q, adS 69 ad q → s.heap.size ≤ q := fun q ⟨k, hk, e⟩ => e ▸ hge k hk
  refine lv_aload_n hx hb dL_law_783 rfl (lv_at hl 3 rfl) ?_
  refine kVi hx hb hml hown hts hK hPc hS hAc (As := []) (rest := []) (c_X5_survivors l dC dI cA ad hI Mc) (mkV hts q_419 q_47 q_416 q_417 q_418 hyX5_survivors rfl rfl ⟨(Nat.le_of_ble_eq_true rfl), (Nat.le_of_ble_eq_true rfl)⟩) (w_recv hK hPc (k := 0) (by decide) lyC0 (q := (RX5, TX5, 10)) rfl) rfl hl.1 rfl (Nat.le_of_ble_eq_true rfl) dL_law_784 ⟨by show cells ≤ 633746; omega, by show slots ≤ 7194866; omega⟩ (fun r u H locs hw hPc hS _ hk => ?_)
  have hPm := wld_kept hPm (B := adS 69 ad) (fun k hk9 ⟨j, hj, e⟩ => hap j k hj hk9 e.symm) hk
  have hPo := outB_kept hPo (B := adS 69 ad) (fun ⟨j, hj, e⟩ => hqc j hj e) hk
  obtain ⟨Mc1, ec⟩ : ∃ z, z = u := ⟨_, rfl⟩
  rw [← ec] at hw hPc
  obtain ⟨a1, ea⟩ : ∃ z, z = r := ⟨_, rfl⟩
  rw [← ea] at hw
  refine w_eqi ea.symm ?_
  have hz1 := congrArg Prod.snd hw
  have ha0 := congrArg Prod.fst hw
  dsimp only at hz1 ha0
  refine lv_pop hx hb dL_law_787 rfl ?_
  refine lv_aload_n hx hb dL_law_788 rfl (lv_at hl 2 rfl) ?_
  refine kVi hx hb hml hown hts hK hPm hS hAm (As := []) (rest := []) (c_X6_survivors l dC dI cA am hIm Mm  hwm) (mkV hts q_1096 q_53 q_1093 q_1094 q_1095 hyX6_survivors rfl rfl ⟨(Nat.le_of_ble_eq_true rfl), (Nat.le_of_ble_eq_true rfl)⟩) (w_recv hK hPm (k := 0) (by decide) lyM0 (q := (RX6, TX6, 26)) rfl) rfl hl.1 rfl (Nat.le_of_ble_eq_true rfl) dL_law_789 ⟨by show cells ≤ 633746; omega, by show slots ≤ 7194866; omega⟩ (fun r u H locs hw hPm hS _ hk => ?_)
  have hPc := wld_kept hPc (B := adS 12 am) (fun k hk9 ⟨j, hj, e⟩ => hap k j hk9 hj e) hk
  have hPo := outB_kept hPo (B := adS 12 am) (fun ⟨j, hj, e⟩ => hqm j hj e) hk
  obtain ⟨hw, hwm⟩ := hw
  obtain ⟨Mm1, em⟩ : ∃ z, z = u := ⟨_, rfl⟩
  rw [← em] at hw hwm hPm
  obtain ⟨b1, eb⟩ : ∃ z, z = r := ⟨_, rfl⟩
  rw [← eb] at hw
  refine w_eqi eb.symm ?_
  have hMm := congrArg Prod.snd hw
  have hb0 := congrArg Prod.fst hw
  dsimp only at hMm hb0
  refine lv_pop hx hb dL_law_792 rfl ?_
  refine lv_goto (tgt := 880) hx hb dL_law_793 (by decide) ?_
  refine W.widen (k := cells + 3) (n := slots + 18) (by omega) (by omega) ?_
  rw [hz1] at hPc
  rw [hMm] at hPm hwm
  exact kk _ _ _ _ ⟨hPc, hPm, hPo, hS⟩ hwm (lv_sub hl [0, 1, 2, 3, 4] rfl)
set_option maxHeartbeats 4000000 in
set_option maxRecDepth 100000 in
theorem lc_25 {p : Program} {l : Launch} {e : Env} {s : State} {m : MethodId} {below : List Frame} {meth : Method} {c : Code} {b L : Nat} {xs : Nat → Int32} {dC : Nat → ClassId} {dI : Nat → Nat → Nat} {cA : Nat → ClassId} {ad am : Nat → Nat} {qo : Nat} (C : LCx p l s m c b L xs dC dI cA ad am qo) {Q : State → Prop} {cells slots i : Nat} (hi : i + 5 ≤ L) (hcc : cells + 3 ≤ 633746 ∧ slots + 18 ≤ 7194866) {Mc Mm : Mem} {fo : Nat → Int64} {H : Heap} {locs : List Loc} {ls : Array Slot} (hW : LWx s H locs dC dI cA ad am qo Mc Mm fo) (hwm : WFm Mm) (hl : lv_has ls 8 [(4, .int (nI (i))), (3, .ref qo), (2, .ref (am (0))), (1, .ref (ad (0))), (0, .ref b)]) (hsv : DH_25 Mm) (hdd : DD Mm)
    (kk : ∀ (H : Heap) (locs : List Loc) (ls : Array Slot) (fo : Nat → Int64), LWx s H locs dC dI cA ad am qo ((f_X5_combinedOffset Mc).2.2) ((f_X6_combinedOffset Mm).2) fo → WFm ((f_X6_combinedOffset Mm).2) → lv_has ls 8 [(4, .int (nI (i))), (3, .ref qo), (2, .ref (am (0))), (1, .ref (ad (0))), (0, .ref b)] → W p l e room_1 s m #[Value.ref b] below meth c H locs (cells + 3) (slots + 18) Q (F0 m 880 ls [])) : W p l e room_1 s m #[Value.ref b] below meth c H locs cells slots Q (F0 m 796 ls []) := by
  obtain ⟨hx, hb, hml, hown, hts, hK, hKX, hNC, hfl, hX, hbl, hL, hI, hIm, hge, hgm, hgo, hap, hqc, hqm⟩ := C
  obtain ⟨hPc, hPm, hPo, hS⟩ := hW
  have hbA : ¬ (fun q : Nat => s.heap.size ≤ q) b := Nat.not_le.mpr hbl
  have hAm : ∀ q, adS 12 am q → s.heap.size ≤ q := fun q ⟨k, hk, e⟩ => e ▸ hgm k hk
  have hAc : ∀ q, adS 69 ad q → s.heap.size ≤ q := fun q ⟨k, hk, e⟩ => e ▸ hge k hk
  refine lv_aload_n hx hb dL_law_796 rfl (lv_at hl 3 rfl) ?_
  refine lv_aload_n hx hb dL_law_797 rfl (lv_at hl 1 rfl) ?_
  refine kW hx hb hml hown hts hK hPc hPo hS hKX hNC hge hgo (As := [.ref (ad (0)), .ref qo]) (rest := []) (c_L_combinedOffset l hfl dC dI cA ad hI qo hqc Mc fo ) (mkSW hts q_757 q_46 q_755 q_756 hyL_combinedOffset rfl rfl ⟨(Nat.le_of_ble_eq_true rfl), (Nat.le_of_ble_eq_true rfl)⟩) rfl hl.1 rfl (Nat.le_of_ble_eq_true rfl) dL_law_798 ⟨by show cells + 1 ≤ 633746; omega, by show slots + 6 ≤ 7194866; omega⟩ (fun r z H locs hw hPc hPo hS _ hk => ?_)
  obtain ⟨Mc1, fo1⟩ := z
  obtain ⟨r0, er⟩ : ∃ z, z = r := ⟨_, rfl⟩
  rw [← er] at hw
  refine w_eqi er.symm ?_
  obtain ⟨hr, hz1, hv1⟩ := hw
  dsimp only at hz1 hv1 hPc hPo
  have hPm := wld_kept hPm (B := adW ad qo) (fun k hk9 h => h.elim (fun ⟨j, hj, e⟩ => hap j k hj hk9 e.symm) (fun e => hqm k hk9 e.symm)) hk
  refine lv_istore (lv' := [(5, .int r0), (4, .int (nI (i))), (3, .ref qo), (2, .ref (am (0))), (1, .ref (ad (0))), (0, .ref b)]) hx hb dL_law_801 hl (by decide) rfl (fun ls hl => ?_)
  refine lv_aload_n hx hb dL_law_803 rfl (lv_at hl 3 rfl) ?_
  refine kVl hx hb hml hown hts hK hPm hS hAm (As := []) (rest := []) (c_X6_combinedOffset l dC dI cA am hIm Mm  hwm hsv hdd) (mkV hts q_1116 q_53 q_1113 q_1114 q_1115 hyX6_combinedOffset rfl rfl ⟨(Nat.le_of_ble_eq_true rfl), (Nat.le_of_ble_eq_true rfl)⟩) (w_recv hK hPm (k := 0) (by decide) lyM0 (q := (RX6, TX6, 26)) rfl) rfl hl.1 rfl (Nat.le_of_ble_eq_true rfl) dL_law_804 ⟨by show cells + 1 ≤ 633746; omega, by show slots + 6 ≤ 7194866; omega⟩ (fun r u H locs hw hPm hS _ hk => ?_)
  have hPc := wld_kept hPc (B := adS 12 am) (fun k hk9 ⟨j, hj, e⟩ => hap k j hk9 hj e) hk
  have hPo := outB_kept hPo (B := adS 12 am) (fun ⟨j, hj, e⟩ => hqm j hj e) hk
  obtain ⟨hw, hwm⟩ := hw
  obtain ⟨Mm1, em⟩ : ∃ z, z = u := ⟨_, rfl⟩
  rw [← em] at hw hwm hPm
  obtain ⟨b1, eb⟩ : ∃ z, z = r := ⟨_, rfl⟩
  rw [← eb] at hw
  refine w_eql eb.symm ?_
  have hMm := congrArg Prod.snd hw
  have hb0 := congrArg Prod.fst hw
  dsimp only at hMm hb0
  have hb1 := hb0.symm
  refine lv_lstore (lv' := [(6, .long b1), (5, .int r0), (4, .int (nI (i))), (3, .ref qo), (2, .ref (am (0))), (1, .ref (ad (0))), (0, .ref b)]) hx hb dL_law_807 hl (by decide) rfl (fun ls hl => ?_)
  refine lv_goto (tgt := 880) hx hb dL_law_809 (by decide) ?_
  refine W.widen (k := cells + 3) (n := slots + 18) (by omega) (by omega) ?_
  rw [hz1] at hPc
  rw [hMm] at hPm hwm
  exact kk _ _ _ _ ⟨hPc, hPm, hPo, hS⟩ hwm (lv_sub hl [2, 3, 4, 5, 6] rfl)
set_option maxHeartbeats 4000000 in
set_option maxRecDepth 100000 in
theorem lc_26 {p : Program} {l : Launch} {e : Env} {s : State} {m : MethodId} {below : List Frame} {meth : Method} {c : Code} {b L : Nat} {xs : Nat → Int32} {dC : Nat → ClassId} {dI : Nat → Nat → Nat} {cA : Nat → ClassId} {ad am : Nat → Nat} {qo : Nat} (C : LCx p l s m c b L xs dC dI cA ad am qo) {Q : State → Prop} {cells slots i : Nat} (hi : i + 5 ≤ L) (hcc : cells + 3 ≤ 633746 ∧ slots + 18 ≤ 7194866) {Mc Mm : Mem} {fo : Nat → Int64} {H : Heap} {locs : List Loc} {ls : Array Slot} (hW : LWx s H locs dC dI cA ad am qo Mc Mm fo) (hwm : WFm Mm) (hl : lv_has ls 8 [(4, .int (nI (i))), (3, .ref qo), (2, .ref (am (0))), (1, .ref (ad (0))), (0, .ref b)])
    (kk : ∀ (H : Heap) (locs : List Loc) (ls : Array Slot) (fo : Nat → Int64), LWx s H locs dC dI cA ad am qo ((f_X5_peer Mc).2) ((f_X6_peer Mm).2) fo → WFm ((f_X6_peer Mm).2) → lv_has ls 8 [(4, .int (nI (i))), (3, .ref qo), (2, .ref (am (0))), (1, .ref (ad (0))), (0, .ref b)] → W p l e room_1 s m #[Value.ref b] below meth c H locs (cells + 3) (slots + 18) Q (F0 m 880 ls [])) : W p l e room_1 s m #[Value.ref b] below meth c H locs cells slots Q (F0 m 812 ls []) := by
  obtain ⟨hx, hb, hml, hown, hts, hK, hKX, hNC, hfl, hX, hbl, hL, hI, hIm, hge, hgm, hgo, hap, hqc, hqm⟩ := C
  obtain ⟨hPc, hPm, hPo, hS⟩ := hW
  have hbA : ¬ (fun q : Nat => s.heap.size ≤ q) b := Nat.not_le.mpr hbl
  have hAm : ∀ q, adS 12 am q → s.heap.size ≤ q := fun q ⟨k, hk, e⟩ => e ▸ hgm k hk
  have hAc : ∀ q, adS 69 ad q → s.heap.size ≤ q := fun q ⟨k, hk, e⟩ => e ▸ hge k hk
  refine lv_aload_n hx hb dL_law_812 rfl (lv_at hl 3 rfl) ?_
  refine kVi hx hb hml hown hts hK hPc hS hAc (As := []) (rest := []) (c_X5_peer l dC dI cA ad hI Mc) (mkV hts q_427 q_47 q_424 q_425 q_426 hyX5_peer rfl rfl ⟨(Nat.le_of_ble_eq_true rfl), (Nat.le_of_ble_eq_true rfl)⟩) (w_recv hK hPc (k := 0) (by decide) lyC0 (q := (RX5, TX5, 10)) rfl) rfl hl.1 rfl (Nat.le_of_ble_eq_true rfl) dL_law_813 ⟨by show cells ≤ 633746; omega, by show slots ≤ 7194866; omega⟩ (fun r u H locs hw hPc hS _ hk => ?_)
  have hPm := wld_kept hPm (B := adS 69 ad) (fun k hk9 ⟨j, hj, e⟩ => hap j k hj hk9 e.symm) hk
  have hPo := outB_kept hPo (B := adS 69 ad) (fun ⟨j, hj, e⟩ => hqc j hj e) hk
  obtain ⟨Mc1, ec⟩ : ∃ z, z = u := ⟨_, rfl⟩
  rw [← ec] at hw hPc
  obtain ⟨a1, ea⟩ : ∃ z, z = r := ⟨_, rfl⟩
  rw [← ea] at hw
  refine w_eqi ea.symm ?_
  have hz1 := congrArg Prod.snd hw
  have ha0 := congrArg Prod.fst hw
  dsimp only at hz1 ha0
  refine lv_pop hx hb dL_law_816 rfl ?_
  refine lv_aload_n hx hb dL_law_817 rfl (lv_at hl 2 rfl) ?_
  refine kVi hx hb hml hown hts hK hPm hS hAm (As := []) (rest := []) (c_X6_peer l dC dI cA am hIm Mm  hwm) (mkV hts q_1124 q_53 q_1121 q_1122 q_1123 hyX6_peer rfl rfl ⟨(Nat.le_of_ble_eq_true rfl), (Nat.le_of_ble_eq_true rfl)⟩) (w_recv hK hPm (k := 0) (by decide) lyM0 (q := (RX6, TX6, 26)) rfl) rfl hl.1 rfl (Nat.le_of_ble_eq_true rfl) dL_law_818 ⟨by show cells ≤ 633746; omega, by show slots ≤ 7194866; omega⟩ (fun r u H locs hw hPm hS _ hk => ?_)
  have hPc := wld_kept hPc (B := adS 12 am) (fun k hk9 ⟨j, hj, e⟩ => hap k j hk9 hj e) hk
  have hPo := outB_kept hPo (B := adS 12 am) (fun ⟨j, hj, e⟩ => hqm j hj e) hk
  obtain ⟨hw, hwm⟩ := hw
  obtain ⟨Mm1, em⟩ : ∃ z, z = u := ⟨_, rfl⟩
  rw [← em] at hw hwm hPm
  obtain ⟨b1, eb⟩ : ∃ z, z = r := ⟨_, rfl⟩
  rw [← eb] at hw
  refine w_eqi eb.symm ?_
  have hMm := congrArg Prod.snd hw
  have hb0 := congrArg Prod.fst hw
  dsimp only at hMm hb0
  refine lv_pop hx hb dL_law_821 rfl ?_
  refine lv_goto (tgt := 880) hx hb dL_law_822 (by decide) ?_
  refine W.widen (k := cells + 3) (n := slots + 18) (by omega) (by omega) ?_
  rw [hz1] at hPc
  rw [hMm] at hPm hwm
  exact kk _ _ _ _ ⟨hPc, hPm, hPo, hS⟩ hwm (lv_sub hl [0, 1, 2, 3, 4] rfl)
set_option maxHeartbeats 4000000 in
set_option maxRecDepth 100000 in
theorem lc_27 {p : Program} {l : Launch} {e : Env} {s : State} {m : MethodId} {below : List Frame} {meth : Method} {c : Code} {b L : Nat} {xs : Nat → Int32} {dC : Nat → ClassId} {dI : Nat → Nat → Nat} {cA : Nat → ClassId} {ad am : Nat → Nat} {qo : Nat} (C : LCx p l s m c b L xs dC dI cA ad am qo) {Q : State → Prop} {cells slots i : Nat} (hi : i + 5 ≤ L) (hcc : cells + 3 ≤ 633746 ∧ slots + 18 ≤ 7194866) {Mc Mm : Mem} {fo : Nat → Int64} {H : Heap} {locs : List Loc} {ls : Array Slot} (hW : LWx s H locs dC dI cA ad am qo Mc Mm fo) (hwm : WFm Mm) (hl : lv_has ls 8 [(4, .int (nI (i))), (3, .ref qo), (2, .ref (am (0))), (1, .ref (ad (0))), (0, .ref b)]) (hsv : DH_27 Mm) (hdd : DD Mm)
    (kk : ∀ (H : Heap) (locs : List Loc) (ls : Array Slot) (fo : Nat → Int64), LWx s H locs dC dI cA ad am qo ((f_X5_synchronize Mc).2.2) ((f_X6_synchronize Mm).2) fo → WFm ((f_X6_synchronize Mm).2) → lv_has ls 8 [(4, .int (nI (i))), (3, .ref qo), (2, .ref (am (0))), (1, .ref (ad (0))), (0, .ref b)] → W p l e room_1 s m #[Value.ref b] below meth c H locs (cells + 3) (slots + 18) Q (F0 m 880 ls [])) : W p l e room_1 s m #[Value.ref b] below meth c H locs cells slots Q (F0 m 825 ls []) := by
  obtain ⟨hx, hb, hml, hown, hts, hK, hKX, hNC, hfl, hX, hbl, hL, hI, hIm, hge, hgm, hgo, hap, hqc, hqm⟩ := C
  obtain ⟨hPc, hPm, hPo, hS⟩ := hW
  have hbA : ¬ (fun q : Nat => s.heap.size ≤ q) b := Nat.not_le.mpr hbl
  have hAm : ∀ q, adS 12 am q → s.heap.size ≤ q := fun q ⟨k, hk, e⟩ => e ▸ hgm k hk
  have hAc : ∀ q, adS 69 ad q → s.heap.size ≤ q := fun q ⟨k, hk, e⟩ => e ▸ hge k hk
  refine lv_aload_n hx hb dL_law_825 rfl (lv_at hl 3 rfl) ?_
  refine lv_aload_n hx hb dL_law_826 rfl (lv_at hl 1 rfl) ?_
  refine kW hx hb hml hown hts hK hPc hPo hS hKX hNC hge hgo (As := [.ref (ad (0)), .ref qo]) (rest := []) (c_L_synchronize l hfl dC dI cA ad hI qo hqc Mc fo ) (mkSW hts q_775 q_46 q_773 q_774 hyL_synchronize rfl rfl ⟨(Nat.le_of_ble_eq_true rfl), (Nat.le_of_ble_eq_true rfl)⟩) rfl hl.1 rfl (Nat.le_of_ble_eq_true rfl) dL_law_827 ⟨by show cells + 1 ≤ 633746; omega, by show slots + 6 ≤ 7194866; omega⟩ (fun r z H locs hw hPc hPo hS _ hk => ?_)
  obtain ⟨Mc1, fo1⟩ := z
  obtain ⟨r0, er⟩ : ∃ z, z = r := ⟨_, rfl⟩
  rw [← er] at hw
  refine w_eqi er.symm ?_
  obtain ⟨hr, hz1, hv1⟩ := WPn_int hw
  dsimp only at hz1 hv1 hPc hPo
  have hPm := wld_kept hPm (B := adW ad qo) (fun k hk9 h => h.elim (fun ⟨j, hj, e⟩ => hap j k hj hk9 e.symm) (fun e => hqm k hk9 e.symm)) hk
  refine lv_istore (lv' := [(5, .int r0), (4, .int (nI (i))), (3, .ref qo), (2, .ref (am (0))), (1, .ref (ad (0))), (0, .ref b)]) hx hb dL_law_830 hl (by decide) rfl (fun ls hl => ?_)
  refine lv_aload_n hx hb dL_law_832 rfl (lv_at hl 3 rfl) ?_
  refine kVi hx hb hml hown hts hK hPm hS hAm (As := []) (rest := []) (c_X6_synchronize l dC dI cA am hIm Mm  hwm hsv hdd) (mkV hts q_1132 q_53 q_1129 q_1130 q_1131 hyX6_synchronize rfl rfl ⟨(Nat.le_of_ble_eq_true rfl), (Nat.le_of_ble_eq_true rfl)⟩) (w_recv hK hPm (k := 0) (by decide) lyM0 (q := (RX6, TX6, 26)) rfl) rfl hl.1 rfl (Nat.le_of_ble_eq_true rfl) dL_law_833 ⟨by show cells + 1 ≤ 633746; omega, by show slots + 6 ≤ 7194866; omega⟩ (fun r u H locs hw hPm hS _ hk => ?_)
  have hPc := wld_kept hPc (B := adS 12 am) (fun k hk9 ⟨j, hj, e⟩ => hap k j hk9 hj e) hk
  have hPo := outB_kept hPo (B := adS 12 am) (fun ⟨j, hj, e⟩ => hqm j hj e) hk
  obtain ⟨hw, hwm⟩ := hw
  obtain ⟨Mm1, em⟩ : ∃ z, z = u := ⟨_, rfl⟩
  rw [← em] at hw hwm hPm
  obtain ⟨b1, eb⟩ : ∃ z, z = r := ⟨_, rfl⟩
  rw [← eb] at hw
  refine w_eqi eb.symm ?_
  have hMm := congrArg Prod.snd hw
  have hb0 := congrArg Prod.fst hw
  dsimp only at hMm hb0
  have hb1 := (congrArg Int32.toInt64 hb0).symm
  refine lv_istore (lv' := [(6, .int b1), (5, .int r0), (4, .int (nI (i))), (3, .ref qo), (2, .ref (am (0))), (1, .ref (ad (0))), (0, .ref b)]) hx hb dL_law_836 hl (by decide) rfl (fun ls hl => ?_)
  refine lv_goto (tgt := 880) hx hb dL_law_838 (by decide) ?_
  refine W.widen (k := cells + 3) (n := slots + 18) (by omega) (by omega) ?_
  rw [hz1] at hPc
  rw [hMm] at hPm hwm
  exact kk _ _ _ _ ⟨hPc, hPm, hPo, hS⟩ hwm (lv_sub hl [2, 3, 4, 5, 6] rfl)
set_option maxHeartbeats 4000000 in
set_option maxRecDepth 100000 in
theorem lc_28 {p : Program} {l : Launch} {e : Env} {s : State} {m : MethodId} {below : List Frame} {meth : Method} {c : Code} {b L : Nat} {xs : Nat → Int32} {dC : Nat → ClassId} {dI : Nat → Nat → Nat} {cA : Nat → ClassId} {ad am : Nat → Nat} {qo : Nat} (C : LCx p l s m c b L xs dC dI cA ad am qo) {Q : State → Prop} {cells slots i : Nat} (hi : i + 5 ≤ L) (hcc : cells + 3 ≤ 633746 ∧ slots + 18 ≤ 7194866) {Mc Mm : Mem} {fo : Nat → Int64} {H : Heap} {locs : List Loc} {ls : Array Slot} (hW : LWx s H locs dC dI cA ad am qo Mc Mm fo) (hwm : WFm Mm) (hl : lv_has ls 8 [(4, .int (nI (i))), (3, .ref qo), (2, .ref (am (0))), (1, .ref (ad (0))), (0, .ref b)])
    (kk : ∀ (H : Heap) (locs : List Loc) (ls : Array Slot) (fo : Nat → Int64), LWx s H locs dC dI cA ad am qo Mc ((f_X6_stratum Mm).2) fo → WFm ((f_X6_stratum Mm).2) → lv_has ls 8 [(4, .int (nI (i))), (3, .ref qo), (2, .ref (am (0))), (1, .ref (ad (0))), (0, .ref b)] → W p l e room_1 s m #[Value.ref b] below meth c H locs (cells + 3) (slots + 18) Q (F0 m 880 ls [])) : W p l e room_1 s m #[Value.ref b] below meth c H locs cells slots Q (F0 m 841 ls []) := by
  obtain ⟨hx, hb, hml, hown, hts, hK, hKX, hNC, hfl, hX, hbl, hL, hI, hIm, hge, hgm, hgo, hap, hqc, hqm⟩ := C
  obtain ⟨hPc, hPm, hPo, hS⟩ := hW
  have hbA : ¬ (fun q : Nat => s.heap.size ≤ q) b := Nat.not_le.mpr hbl
  have hAm : ∀ q, adS 12 am q → s.heap.size ≤ q := fun q ⟨k, hk, e⟩ => e ▸ hgm k hk
  have hAc : ∀ q, adS 69 ad q → s.heap.size ≤ q := fun q ⟨k, hk, e⟩ => e ▸ hge k hk
  refine lv_aload_n hx hb dL_law_841 rfl (lv_at hl 3 rfl) ?_
  refine kVi hx hb hml hown hts hK hPc hS hAc (As := []) (rest := []) (c_X5_stratum l dC dI cA ad hI Mc) (mkV hts q_439 q_47 q_436 q_437 q_438 hyX5_stratum rfl rfl ⟨(Nat.le_of_ble_eq_true rfl), (Nat.le_of_ble_eq_true rfl)⟩) (w_recv hK hPc (k := 0) (by decide) lyC0 (q := (RX5, TX5, 10)) rfl) rfl hl.1 rfl (Nat.le_of_ble_eq_true rfl) dL_law_842 ⟨by show cells ≤ 633746; omega, by show slots ≤ 7194866; omega⟩ (fun r u H locs hw hPc hS _ hk => ?_)
  have hPm := wld_kept hPm (B := adS 69 ad) (fun k hk9 ⟨j, hj, e⟩ => hap j k hj hk9 e.symm) hk
  have hPo := outB_kept hPo (B := adS 69 ad) (fun ⟨j, hj, e⟩ => hqc j hj e) hk
  obtain ⟨Mc1, ec⟩ : ∃ z, z = u := ⟨_, rfl⟩
  rw [← ec] at hw hPc
  obtain ⟨a1, ea⟩ : ∃ z, z = r := ⟨_, rfl⟩
  rw [← ea] at hw
  refine w_eqi ea.symm ?_
  obtain ⟨ha0, hz1⟩ := hw
  refine lv_pop hx hb dL_law_845 rfl ?_
  refine lv_aload_n hx hb dL_law_846 rfl (lv_at hl 2 rfl) ?_
  refine kVi hx hb hml hown hts hK hPm hS hAm (As := []) (rest := []) (c_X6_stratum l dC dI cA am hIm Mm  hwm) (mkV hts q_1142 q_53 q_1139 q_1140 q_1141 hyX6_stratum rfl rfl ⟨(Nat.le_of_ble_eq_true rfl), (Nat.le_of_ble_eq_true rfl)⟩) (w_recv hK hPm (k := 0) (by decide) lyM0 (q := (RX6, TX6, 26)) rfl) rfl hl.1 rfl (Nat.le_of_ble_eq_true rfl) dL_law_847 ⟨by show cells ≤ 633746; omega, by show slots ≤ 7194866; omega⟩ (fun r u H locs hw hPm hS _ hk => ?_)
  have hPc := wld_kept hPc (B := adS 12 am) (fun k hk9 ⟨j, hj, e⟩ => hap k j hk9 hj e) hk
  have hPo := outB_kept hPo (B := adS 12 am) (fun ⟨j, hj, e⟩ => hqm j hj e) hk
  obtain ⟨hw, hwm⟩ := hw
  obtain ⟨Mm1, em⟩ : ∃ z, z = u := ⟨_, rfl⟩
  rw [← em] at hw hwm hPm
  obtain ⟨b1, eb⟩ : ∃ z, z = r := ⟨_, rfl⟩
  rw [← eb] at hw
  refine w_eqi eb.symm ?_
  have hMm := congrArg Prod.snd hw
  have hb0 := congrArg Prod.fst hw
  dsimp only at hMm hb0
  refine lv_pop hx hb dL_law_850 rfl ?_
  refine lv_goto (tgt := 880) hx hb dL_law_851 (by decide) ?_
  refine W.widen (k := cells + 3) (n := slots + 18) (by omega) (by omega) ?_
  rw [hz1] at hPc
  rw [hMm] at hPm hwm
  exact kk _ _ _ _ ⟨hPc, hPm, hPo, hS⟩ hwm (lv_sub hl [0, 1, 2, 3, 4] rfl)
set_option maxHeartbeats 4000000 in
set_option maxRecDepth 100000 in
theorem lc_29 {p : Program} {l : Launch} {e : Env} {s : State} {m : MethodId} {below : List Frame} {meth : Method} {c : Code} {b L : Nat} {xs : Nat → Int32} {dC : Nat → ClassId} {dI : Nat → Nat → Nat} {cA : Nat → ClassId} {ad am : Nat → Nat} {qo : Nat} (C : LCx p l s m c b L xs dC dI cA ad am qo) {Q : State → Prop} {cells slots i : Nat} (hi : i + 5 ≤ L) (hcc : cells + 3 ≤ 633746 ∧ slots + 18 ≤ 7194866) {Mc Mm : Mem} {fo : Nat → Int64} {H : Heap} {locs : List Loc} {ls : Array Slot} (hW : LWx s H locs dC dI cA ad am qo Mc Mm fo) (hwm : WFm Mm) (hl : lv_has ls 8 [(4, .int (nI (i))), (3, .ref qo), (2, .ref (am (0))), (1, .ref (ad (0))), (0, .ref b)])
    (kk : ∀ (H : Heap) (locs : List Loc) (ls : Array Slot) (fo : Nat → Int64), LWx s H locs dC dI cA ad am qo Mc ((f_X6_steps Mm).2) fo → WFm ((f_X6_steps Mm).2) → lv_has ls 8 [(4, .int (nI (i))), (3, .ref qo), (2, .ref (am (0))), (1, .ref (ad (0))), (0, .ref b)] → W p l e room_1 s m #[Value.ref b] below meth c H locs (cells + 3) (slots + 18) Q (F0 m 880 ls [])) : W p l e room_1 s m #[Value.ref b] below meth c H locs cells slots Q (F0 m 854 ls []) := by
  obtain ⟨hx, hb, hml, hown, hts, hK, hKX, hNC, hfl, hX, hbl, hL, hI, hIm, hge, hgm, hgo, hap, hqc, hqm⟩ := C
  obtain ⟨hPc, hPm, hPo, hS⟩ := hW
  have hbA : ¬ (fun q : Nat => s.heap.size ≤ q) b := Nat.not_le.mpr hbl
  have hAm : ∀ q, adS 12 am q → s.heap.size ≤ q := fun q ⟨k, hk, e⟩ => e ▸ hgm k hk
  have hAc : ∀ q, adS 69 ad q → s.heap.size ≤ q := fun q ⟨k, hk, e⟩ => e ▸ hge k hk
  refine lv_aload_n hx hb dL_law_854 rfl (lv_at hl 3 rfl) ?_
  refine kVi hx hb hml hown hts hK hPc hS hAc (As := []) (rest := []) (c_X5_steps l dC dI cA ad hI Mc) (mkV hts q_443 q_47 q_440 q_441 q_442 hyX5_steps rfl rfl ⟨(Nat.le_of_ble_eq_true rfl), (Nat.le_of_ble_eq_true rfl)⟩) (w_recv hK hPc (k := 0) (by decide) lyC0 (q := (RX5, TX5, 10)) rfl) rfl hl.1 rfl (Nat.le_of_ble_eq_true rfl) dL_law_855 ⟨by show cells ≤ 633746; omega, by show slots ≤ 7194866; omega⟩ (fun r u H locs hw hPc hS _ hk => ?_)
  have hPm := wld_kept hPm (B := adS 69 ad) (fun k hk9 ⟨j, hj, e⟩ => hap j k hj hk9 e.symm) hk
  have hPo := outB_kept hPo (B := adS 69 ad) (fun ⟨j, hj, e⟩ => hqc j hj e) hk
  obtain ⟨Mc1, ec⟩ : ∃ z, z = u := ⟨_, rfl⟩
  rw [← ec] at hw hPc
  obtain ⟨a1, ea⟩ : ∃ z, z = r := ⟨_, rfl⟩
  rw [← ea] at hw
  refine w_eqi ea.symm ?_
  obtain ⟨ha0, hz1⟩ := hw
  refine lv_pop hx hb dL_law_858 rfl ?_
  refine lv_aload_n hx hb dL_law_859 rfl (lv_at hl 2 rfl) ?_
  refine kVi hx hb hml hown hts hK hPm hS hAm (As := []) (rest := []) (c_X6_steps l dC dI cA am hIm Mm  hwm) (mkV hts q_1146 q_53 q_1143 q_1144 q_1145 hyX6_steps rfl rfl ⟨(Nat.le_of_ble_eq_true rfl), (Nat.le_of_ble_eq_true rfl)⟩) (w_recv hK hPm (k := 0) (by decide) lyM0 (q := (RX6, TX6, 26)) rfl) rfl hl.1 rfl (Nat.le_of_ble_eq_true rfl) dL_law_860 ⟨by show cells ≤ 633746; omega, by show slots ≤ 7194866; omega⟩ (fun r u H locs hw hPm hS _ hk => ?_)
  have hPc := wld_kept hPc (B := adS 12 am) (fun k hk9 ⟨j, hj, e⟩ => hap k j hk9 hj e) hk
  have hPo := outB_kept hPo (B := adS 12 am) (fun ⟨j, hj, e⟩ => hqm j hj e) hk
  obtain ⟨hw, hwm⟩ := hw
  obtain ⟨Mm1, em⟩ : ∃ z, z = u := ⟨_, rfl⟩
  rw [← em] at hw hwm hPm
  obtain ⟨b1, eb⟩ : ∃ z, z = r := ⟨_, rfl⟩
  rw [← eb] at hw
  refine w_eqi eb.symm ?_
  have hMm := congrArg Prod.snd hw
  have hb0 := congrArg Prod.fst hw
  dsimp only at hMm hb0
  refine lv_pop hx hb dL_law_863 rfl ?_
  refine lv_goto (tgt := 880) hx hb dL_law_864 (by decide) ?_
  refine W.widen (k := cells + 3) (n := slots + 18) (by omega) (by omega) ?_
  rw [hz1] at hPc
  rw [hMm] at hPm hwm
  exact kk _ _ _ _ ⟨hPc, hPm, hPo, hS⟩ hwm (lv_sub hl [0, 1, 2, 3, 4] rfl)
set_option maxHeartbeats 4000000 in
set_option maxRecDepth 100000 in
theorem lc_30 {p : Program} {l : Launch} {e : Env} {s : State} {m : MethodId} {below : List Frame} {meth : Method} {c : Code} {b L : Nat} {xs : Nat → Int32} {dC : Nat → ClassId} {dI : Nat → Nat → Nat} {cA : Nat → ClassId} {ad am : Nat → Nat} {qo : Nat} (C : LCx p l s m c b L xs dC dI cA ad am qo) {Q : State → Prop} {cells slots i : Nat} (hi : i + 5 ≤ L) (hcc : cells + 3 ≤ 633746 ∧ slots + 18 ≤ 7194866) {Mc Mm : Mem} {fo : Nat → Int64} {H : Heap} {locs : List Loc} {ls : Array Slot} (hW : LWx s H locs dC dI cA ad am qo Mc Mm fo) (hwm : WFm Mm) (hl : lv_has ls 8 [(4, .int (nI (i))), (3, .ref qo), (2, .ref (am (0))), (1, .ref (ad (0))), (0, .ref b)]) (hcmp : f_X5_synchronizations Mc = (f_X6_synchronizations Mm).1)
    (kk : ∀ (H : Heap) (locs : List Loc) (ls : Array Slot) (fo : Nat → Int64), LWx s H locs dC dI cA ad am qo Mc ((f_X6_synchronizations Mm).2) fo → WFm ((f_X6_synchronizations Mm).2) → lv_has ls 8 [(4, .int (nI (i))), (3, .ref qo), (2, .ref (am (0))), (1, .ref (ad (0))), (0, .ref b)] → W p l e room_1 s m #[Value.ref b] below meth c H locs (cells + 3) (slots + 18) Q (F0 m 880 ls [])) : W p l e room_1 s m #[Value.ref b] below meth c H locs cells slots Q (F0 m 867 ls []) := by
  obtain ⟨hx, hb, hml, hown, hts, hK, hKX, hNC, hfl, hX, hbl, hL, hI, hIm, hge, hgm, hgo, hap, hqc, hqm⟩ := C
  obtain ⟨hPc, hPm, hPo, hS⟩ := hW
  have hbA : ¬ (fun q : Nat => s.heap.size ≤ q) b := Nat.not_le.mpr hbl
  have hAm : ∀ q, adS 12 am q → s.heap.size ≤ q := fun q ⟨k, hk, e⟩ => e ▸ hgm k hk
  have hAc : ∀ q, adS 69 ad q → s.heap.size ≤ q := fun q ⟨k, hk, e⟩ => e ▸ hge k hk
  refine lv_aload_n hx hb dL_law_867 rfl (lv_at hl 3 rfl) ?_
  refine kVi hx hb hml hown hts hK hPc hS hAc (As := []) (rest := []) (c_X5_synchronizations l dC dI cA ad hI Mc) (mkV hts q_447 q_47 q_444 q_445 q_446 hyX5_synchronizations rfl rfl ⟨(Nat.le_of_ble_eq_true rfl), (Nat.le_of_ble_eq_true rfl)⟩) (w_recv hK hPc (k := 0) (by decide) lyC0 (q := (RX5, TX5, 10)) rfl) rfl hl.1 rfl (Nat.le_of_ble_eq_true rfl) dL_law_868 ⟨by show cells ≤ 633746; omega, by show slots ≤ 7194866; omega⟩ (fun r u H locs hw hPc hS _ hk => ?_)
  have hPm := wld_kept hPm (B := adS 69 ad) (fun k hk9 ⟨j, hj, e⟩ => hap j k hj hk9 e.symm) hk
  have hPo := outB_kept hPo (B := adS 69 ad) (fun ⟨j, hj, e⟩ => hqc j hj e) hk
  obtain ⟨Mc1, ec⟩ : ∃ z, z = u := ⟨_, rfl⟩
  rw [← ec] at hw hPc
  obtain ⟨a1, ea⟩ : ∃ z, z = r := ⟨_, rfl⟩
  rw [← ea] at hw
  refine w_eqi ea.symm ?_
  obtain ⟨ha0, hz1⟩ := hw
  refine lv_aload_n hx hb dL_law_871 rfl (lv_at hl 2 rfl) ?_
  refine kVi hx hb hml hown hts hK hPm hS hAm (As := []) (rest := [.int a1]) (c_X6_synchronizations l dC dI cA am hIm Mm  hwm) (mkV hts q_1150 q_53 q_1147 q_1148 q_1149 hyX6_synchronizations rfl rfl ⟨(Nat.le_of_ble_eq_true rfl), (Nat.le_of_ble_eq_true rfl)⟩) (w_recv hK hPm (k := 0) (by decide) lyM0 (q := (RX6, TX6, 26)) rfl) rfl hl.1 rfl (Nat.le_of_ble_eq_true rfl) dL_law_872 ⟨by show cells ≤ 633746; omega, by show slots ≤ 7194866; omega⟩ (fun r u H locs hw hPm hS _ hk => ?_)
  have hPc := wld_kept hPc (B := adS 12 am) (fun k hk9 ⟨j, hj, e⟩ => hap k j hk9 hj e) hk
  have hPo := outB_kept hPo (B := adS 12 am) (fun ⟨j, hj, e⟩ => hqm j hj e) hk
  obtain ⟨hw, hwm⟩ := hw
  obtain ⟨Mm1, em⟩ : ∃ z, z = u := ⟨_, rfl⟩
  rw [← em] at hw hwm hPm
  obtain ⟨b1, eb⟩ : ∃ z, z = r := ⟨_, rfl⟩
  rw [← eb] at hw
  refine w_eqi eb.symm ?_
  have hMm := congrArg Prod.snd hw
  have hb0 := congrArg Prod.fst hw
  dsimp only at hMm hb0
  have heq := ha0.trans (hcmp.trans hb0.symm)
  refine jI_eq (tgt := 880) hx hb dL_law_875 (by decide) (fun _ => ?_) (fun ck => absurd heq ck)
  refine W.widen (k := cells + 3) (n := slots + 18) (by omega) (by omega) ?_
  rw [hz1] at hPc
  rw [hMm] at hPm hwm
  exact kk _ _ _ _ ⟨hPc, hPm, hPo, hS⟩ hwm (lv_sub hl [0, 1, 2, 3, 4] rfl)
