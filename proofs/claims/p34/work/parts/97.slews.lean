/-! slews: the first correction of a clock, beside one that is not corrected -/
set_option maxHeartbeats 4000000 in
set_option maxRecDepth 100000 in
theorem s_slews_302 {p : Program} {l : Launch} {e : Env} {s : State} {m : MethodId} {args : Array Value} {below : List Frame} {meth : Method} {c : Code} {dC : Nat → ClassId} {dI : Nat → Nat → Nat} {cA : Nat → ClassId} {A : Nat → Prop} {ad bd : Nat → Nat} (C : LK p l s m c args cL_slews 14 dC dI cA A) (ha : CA A ad) (ha2 : CA A bd) (hab : AP ad bd)  {Q : State → Prop} (kend : ∀ (rpc : Nat), decode cL_slews rpc = .ok (.ireturn, 1) → ∀ (H : Heap) (locs : List Loc) (ls : Array Slot) (ca sl : Nat), va_S A s.heap H locs → ca ≤ 200 → sl ≤ 1200 → W p l e ({ frames := 11, cells := 200, slots := 1200, locals := 300 } : Room) s m args below meth c H locs ca sl Q (F0 m rpc ls [.int 1])) :
    ∀ (k : Nat) (b8 : Int64) (p9 : Int) (hk5 : k = 5) (Ma Mb : Mem) (ta tb : Int32) (M N : Mem) (H : Heap) (locs : List Loc) (ls : Array Slot) (ca sl : Nat), LPs k Ma Mb b8.toInt p9 →  CL Ma ta M → CL Mb tb N → va_P (dC, dI) vwCl (wld 69 layC cA ad M) H → va_P (dC, dI) vwCl (wld 69 layC cA bd N) H → va_S A s.heap H locs → lv_has ls 14 [(8, .long b8), (7, .int (1 : Int32)), (5, .ref (ad (0))), (6, .ref (bd (0)))] → ca ≤ 180 → sl ≤ 1080 → W p l e ({ frames := 11, cells := 200, slots := 1200, locals := 300 } : Room) s m args below meth c H locs ca sl Q (F0 m 302 ls []) := by
  obtain ⟨hx, hb, hml, hown, hts, hK, hKX, hNC, hfl⟩ := id C
  obtain ⟨hI0, hA0⟩ := id ha
  obtain ⟨hI1, hA1⟩ := id ha2
  intro k b8 p9 hk5 Ma Mb ta tb M N H locs ls ca sl hL hC0 hC1 hP0 hP1 hS hl hca hsl
  refine lv_iload hx hb dL_slews_302 (lv_at hl 1 rfl) ?_
  refine j0_eq (tgt := 346) hx hb dL_slews_304 (by decide) (fun ck => absurd ck ((by decide))) (fun _ => ?_)
  refine lv_aload hx hb dL_slews_307 (lv_at hl 2 rfl) ?_
  refine kVl hx hb hml hown hts hK hP0 hS hA0 (As := []) (rest := []) (c_X5_pendingSlew l dC dI cA ad hI0 _ ) (mkV hts q_764 q_25 q_761 q_762 q_763 hyX5_pendingSlew rfl rfl ⟨(Nat.le_of_ble_eq_true rfl), (Nat.le_of_ble_eq_true rfl)⟩) (w_recv hK hP0 (k := 0) (by decide) lyC0 (q := (RX5, TX5, 10)) rfl) rfl hl.1 rfl (Nat.le_of_ble_eq_true rfl) dL_slews_309 ⟨by show ca ≤ 200; omega, by show sl ≤ 1200; omega⟩ (fun r u H locs hw hP0 hS _ hkp => ?_)
  have hP1 := wld_kept hP1 (B := adS 69 ad) (fun k hk9 ⟨j, hj, e⟩ => hab j k hj hk9 e.symm) hkp
  obtain ⟨er, hC0⟩ := sp_pend hC0 hw
  refine w_eql er ?_
  refine lv_lconst (v := 0) hx hb dL_slews_312 (by decide) ?_
  refine jL_ne (tgt := 346) hx hb dL_slews_313 dL_slews_314 (by decide) (fun _ => ?_) (fun ck => absurd ((lp_end hC0 hC1 hk5 hL).1) ck)
  refine lv_aload hx hb dL_slews_317 (lv_at hl 2 rfl) ?_
  refine kVl hx hb hml hown hts hK hP0 hS hA0 (As := []) (rest := []) (c_X5_clock l dC dI cA ad hI0 _ ) (mkV hts q_208 q_25 q_205 q_206 q_207 hyX5_clock rfl rfl ⟨(Nat.le_of_ble_eq_true rfl), (Nat.le_of_ble_eq_true rfl)⟩) (w_recv hK hP0 (k := 0) (by decide) lyC0 (q := (RX5, TX5, 10)) rfl) rfl hl.1 rfl (Nat.le_of_ble_eq_true rfl) dL_slews_319 ⟨by show ca ≤ 200; omega, by show sl ≤ 1200; omega⟩ (fun r u H locs hw hP0 hS _ hkp => ?_)
  have hP1 := wld_kept hP1 (B := adS 69 ad) (fun k hk9 ⟨j, hj, e⟩ => hab j k hj hk9 e.symm) hkp
  obtain ⟨er, hC0⟩ := sp_clock hC0 hw
  refine w_eql er ?_
  refine lv_aload hx hb dL_slews_322 (lv_at hl 3 rfl) ?_
  refine kVl hx hb hml hown hts hK hP1 hS hA1 (As := []) (rest := [.long (f_X6_reading Ma)]) (c_X5_clock l dC dI cA bd hI1 _ ) (mkV hts q_208 q_25 q_205 q_206 q_207 hyX5_clock rfl rfl ⟨(Nat.le_of_ble_eq_true rfl), (Nat.le_of_ble_eq_true rfl)⟩) (w_recv hK hP1 (k := 0) (by decide) lyC0 (q := (RX5, TX5, 10)) rfl) rfl hl.1 rfl (Nat.le_of_ble_eq_true rfl) dL_slews_324 ⟨by show ca ≤ 200; omega, by show sl ≤ 1200; omega⟩ (fun r u H locs hw hP1 hS _ hkp => ?_)
  have hP0 := wld_kept hP0 (B := adS 69 bd) (fun k hk9 ⟨j, hj, e⟩ => hab k j hk9 hj e) hkp
  obtain ⟨er, hC1⟩ := sp_clock hC1 hw
  refine w_eql er ?_
  refine lv_lsub hx hb dL_slews_327 ?_
  refine lv_lload hx hb dL_slews_328 (lv_at hl 0 rfl) ?_
  refine jL_ne (tgt := 346) hx hb dL_slews_330 dL_slews_331 (by decide) (fun _ => ?_) (fun ck => absurd ((lp_end hC0 hC1 hk5 hL).2.1) ck)
  refine lv_aload hx hb dL_slews_334 (lv_at hl 2 rfl) ?_
  refine kVi hx hb hml hown hts hK hP0 hS hA0 (As := []) (rest := []) (c_X5_correction l dC dI cA ad hI0 _ ) (mkV hts q_772 q_25 q_769 q_770 q_771 hyX5_correction rfl rfl ⟨(Nat.le_of_ble_eq_true rfl), (Nat.le_of_ble_eq_true rfl)⟩) (w_recv hK hP0 (k := 0) (by decide) lyC0 (q := (RX5, TX5, 10)) rfl) rfl hl.1 rfl (Nat.le_of_ble_eq_true rfl) dL_slews_336 ⟨by show ca ≤ 200; omega, by show sl ≤ 1200; omega⟩ (fun r u H locs hw hP0 hS _ hkp => ?_)
  have hP1 := wld_kept hP1 (B := adS 69 ad) (fun k hk9 ⟨j, hj, e⟩ => hab j k hj hk9 e.symm) hkp
  obtain ⟨er, hC0⟩ := sp_corr hC0 hw
  refine w_eqi er ?_
  refine j0_ne (tgt := 346) hx hb dL_slews_339 (by decide) (fun _ => ?_) (fun ck => absurd ((lp_end hC0 hC1 hk5 hL).2.2) ck)
  refine lv_iconst (v := 1) hx hb dL_slews_342 (by decide) ?_
  refine lv_goto (tgt := 347) hx hb dL_slews_343 (by decide) ?_
  exact kend 347 dL_slews_347 _ _ _ _ _ hS (by omega) (by omega)
set_option maxHeartbeats 4000000 in
set_option maxRecDepth 100000 in
theorem s_slews_197 {p : Program} {l : Launch} {e : Env} {s : State} {m : MethodId} {args : Array Value} {below : List Frame} {meth : Method} {c : Code} {dC : Nat → ClassId} {dI : Nat → Nat → Nat} {cA : Nat → ClassId} {A : Nat → Prop} {ad bd : Nat → Nat} (C : LK p l s m c args cL_slews 14 dC dI cA A) (ha : CA A ad) (ha2 : CA A bd) (hab : AP ad bd)  {Q : State → Prop} (kend : ∀ (rpc : Nat), decode cL_slews rpc = .ok (.ireturn, 1) → ∀ (H : Heap) (locs : List Loc) (ls : Array Slot) (ca sl : Nat), va_S A s.heap H locs → ca ≤ 200 → sl ≤ 1200 → W p l e ({ frames := 11, cells := 200, slots := 1200, locals := 300 } : Room) s m args below meth c H locs ca sl Q (F0 m rpc ls [.int 1])) :
    ∀ (r i : Nat) (b8 : Int64) (p9 : Int) (hb8 : -500000 ≤ b8.toInt ∧ b8.toInt ≤ 500000) (Ma Mb : Mem) (ta tb : Int32) (M N : Mem) (H : Heap) (locs : List Loc) (ls : Array Slot) (ca sl : Nat), i + r = 6 → i ≤ 5 → LPs i Ma Mb b8.toInt p9 →  CL Ma ta M → CL Mb tb N → va_P (dC, dI) vwCl (wld 69 layC cA ad M) H → va_P (dC, dI) vwCl (wld 69 layC cA bd N) H → va_S A s.heap H locs → lv_has ls 14 [(11, .int (nI i)), (8, .long b8), (7, .int (1 : Int32)), (5, .ref (ad (0))), (6, .ref (bd (0)))] → ca ≤ 160 + 2 * i → sl ≤ 6 * (160 + 2 * i) → W p l e ({ frames := 11, cells := 200, slots := 1200, locals := 300 } : Room) s m args below meth c H locs ca sl Q (F0 m 197 ls []) := by
  obtain ⟨hx, hb, hml, hown, hts, hK, hKX, hNC, hfl⟩ := id C
  obtain ⟨hI0, hA0⟩ := id ha
  obtain ⟨hI1, hA1⟩ := id ha2
  intro r
  induction r with
  | zero =>
    intro i b8 p9 hb8 Ma Mb ta tb M N H locs ls ca sl hir his
    omega
  | succ r ih =>
    intro i b8 p9 hb8 Ma Mb ta tb M N H locs ls ca sl hir his hL hC0 hC1 hP0 hP1 hS hl hca hsl
    refine lv_iload hx hb dL_slews_197 (lv_at hl 0 rfl) ?_
    refine lv_iconst (v := 5) hx hb dL_slews_199 (by decide) ?_
    refine jI_ge (tgt := 302) hx hb dL_slews_200 (by decide) (fun c200 => ?_) (fun c200 => ?_)
    · have hk : i < 5 := nI_lt8 (n := 5) c200 (by omega) (by decide)
      refine lv_iload hx hb dL_slews_203 (lv_at hl 2 rfl) ?_
      refine j0_eq (tgt := 302) hx hb dL_slews_205 (by decide) (fun ck => absurd ck ((by decide))) (fun _ => ?_)
      refine lv_aload hx hb dL_slews_208 (lv_at hl 3 rfl) ?_
      refine kVl hx hb hml hown hts hK hP0 hS hA0 (As := []) (rest := []) (c_X5_clock l dC dI cA ad hI0 _ ) (mkV hts q_208 q_25 q_205 q_206 q_207 hyX5_clock rfl rfl ⟨(Nat.le_of_ble_eq_true rfl), (Nat.le_of_ble_eq_true rfl)⟩) (w_recv hK hP0 (k := 0) (by decide) lyC0 (q := (RX5, TX5, 10)) rfl) rfl hl.1 rfl (Nat.le_of_ble_eq_true rfl) dL_slews_210 ⟨by show ca ≤ 200; omega, by show sl ≤ 1200; omega⟩ (fun r u H locs hw hP0 hS _ hkp => ?_)
      have hP1 := wld_kept hP1 (B := adS 69 ad) (fun k hk9 ⟨j, hj, e⟩ => hab j k hj hk9 e.symm) hkp
      obtain ⟨er, hC0⟩ := sp_clock hC0 hw
      refine w_eql er ?_
      refine lv_aload hx hb dL_slews_213 (lv_at hl 4 rfl) ?_
      refine kVl hx hb hml hown hts hK hP1 hS hA1 (As := []) (rest := [.long (f_X6_reading Ma)]) (c_X5_clock l dC dI cA bd hI1 _ ) (mkV hts q_208 q_25 q_205 q_206 q_207 hyX5_clock rfl rfl ⟨(Nat.le_of_ble_eq_true rfl), (Nat.le_of_ble_eq_true rfl)⟩) (w_recv hK hP1 (k := 0) (by decide) lyC0 (q := (RX5, TX5, 10)) rfl) rfl hl.1 rfl (Nat.le_of_ble_eq_true rfl) dL_slews_215 ⟨by show ca ≤ 200; omega, by show sl ≤ 1200; omega⟩ (fun r u H locs hw hP1 hS _ hkp => ?_)
      have hP0 := wld_kept hP0 (B := adS 69 bd) (fun k hk9 ⟨j, hj, e⟩ => hab k j hk9 hj e) hkp
      obtain ⟨er, hC1⟩ := sp_clock hC1 hw
      refine w_eql er ?_
      refine lv_lsub hx hb dL_slews_218 ?_
      refine lv_lstore (lv' := [(12, .long ((f_X6_reading Ma) - (f_X6_reading Mb))), (11, .int (nI i)), (8, .long b8), (7, .int (1 : Int32)), (5, .ref (ad (0))), (6, .ref (bd (0)))]) hx hb dL_slews_219 hl (by decide) rfl (fun ls hl => ?_)
      obtain ⟨⟨hn1, hn2⟩, p', hL', hp1, hp2⟩ := lp_step hC0 hC1 hk hb8 hL
      have hCa := hC0
      have hCb := hC1
      refine lv_aload hx hb dL_slews_221 (lv_at hl 4 rfl) ?_
      refine lv_ldc (v := 1000000000) hx hb hown (hts _ q_825) dL_slews_223 ?_
      refine kWl hx hb hml hown hts hK hP0 hS hKX hNC hA0 (As := [.ref (ad (0)), .int (1000000000 : Int32)]) (rest := []) (c_L_passed l hfl dC dI cA ad hI0 _ (1000000000 : Int32)) (mkSW hts q_329 q_24 q_327 q_328 hyL_passed rfl rfl ⟨(Nat.le_of_ble_eq_true rfl), (Nat.le_of_ble_eq_true rfl)⟩) rfl hl.1 rfl (Nat.le_of_ble_eq_true rfl) dL_slews_225 ⟨by show ca + 1 ≤ 200; omega, by show sl + 6 ≤ 1200; omega⟩ (fun r u H locs hw hP0 hS _ hkp => ?_)
      have hP1 := wld_kept hP1 (B := adS 69 ad) (fun k hk9 ⟨j, hj, e⟩ => hab j k hj hk9 e.symm) hkp
      obtain ⟨er, hC0⟩ := sp_passed hC0 (by rw [g9]; omega) hn1 hw
      refine w_eql er ?_
      refine lv_lconst (v := 0) hx hb dL_slews_228 (by decide) ?_
      refine jL_le (tgt := 293) hx hb dL_slews_229 dL_slews_230 (by decide) (fun _ => ?_) (fun ck => absurd (hp1) ck)
      refine lv_aload hx hb dL_slews_233 (lv_at hl 5 rfl) ?_
      refine lv_ldc (v := 1000000000) hx hb hown (hts _ q_825) dL_slews_235 ?_
      refine kWl hx hb hml hown hts hK hP1 hS hKX hNC hA1 (As := [.ref (bd (0)), .int (1000000000 : Int32)]) (rest := []) (c_L_passed l hfl dC dI cA bd hI1 _ (1000000000 : Int32)) (mkSW hts q_329 q_24 q_327 q_328 hyL_passed rfl rfl ⟨(Nat.le_of_ble_eq_true rfl), (Nat.le_of_ble_eq_true rfl)⟩) rfl hl.1 rfl (Nat.le_of_ble_eq_true rfl) dL_slews_237 ⟨by show ca + 1 + 1 ≤ 200; omega, by show sl + 6 + 6 ≤ 1200; omega⟩ (fun r u H locs hw hP1 hS _ hkp => ?_)
      have hP0 := wld_kept hP0 (B := adS 69 bd) (fun k hk9 ⟨j, hj, e⟩ => hab k j hk9 hj e) hkp
      obtain ⟨er, hC1⟩ := sp_passed hC1 (by rw [g9]; omega) hn2 hw
      refine w_eql er ?_
      refine lv_lconst (v := 0) hx hb dL_slews_240 (by decide) ?_
      refine jL_le (tgt := 293) hx hb dL_slews_241 dL_slews_242 (by decide) (fun _ => ?_) (fun ck => absurd (hp2) ck)
      refine lv_lload hx hb dL_slews_245 (lv_at hl 2 rfl) ?_
      refine lv_lconst (v := 0) hx hb dL_slews_247 (by decide) ?_
      refine jL_ge (tgt := 272) hx hb dL_slews_248 dL_slews_249 (by decide) (fun c249 => ?_) (fun c249 => ?_)
      · refine lv_aload hx hb dL_slews_252 (lv_at hl 4 rfl) ?_
        refine kVl hx hb hml hown hts hK hP0 hS hA0 (As := []) (rest := []) (c_X5_clock l dC dI cA ad hI0 _ ) (mkV hts q_208 q_25 q_205 q_206 q_207 hyX5_clock rfl rfl ⟨(Nat.le_of_ble_eq_true rfl), (Nat.le_of_ble_eq_true rfl)⟩) (w_recv hK hP0 (k := 0) (by decide) lyC0 (q := (RX5, TX5, 10)) rfl) rfl hl.1 rfl (Nat.le_of_ble_eq_true rfl) dL_slews_254 ⟨by show ca + 1 + 1 ≤ 200; omega, by show sl + 6 + 6 ≤ 1200; omega⟩ (fun r u H locs hw hP0 hS _ hkp => ?_)
        have hP1 := wld_kept hP1 (B := adS 69 ad) (fun k hk9 ⟨j, hj, e⟩ => hab j k hj hk9 e.symm) hkp
        obtain ⟨er, hC0⟩ := sp_clock hC0 hw
        refine w_eql er ?_
        refine lv_aload hx hb dL_slews_257 (lv_at hl 5 rfl) ?_
        refine kVl hx hb hml hown hts hK hP1 hS hA1 (As := []) (rest := [.long (f_X6_reading (f_X6_goOn Ma (1000000000 : Int32)))]) (c_X5_clock l dC dI cA bd hI1 _ ) (mkV hts q_208 q_25 q_205 q_206 q_207 hyX5_clock rfl rfl ⟨(Nat.le_of_ble_eq_true rfl), (Nat.le_of_ble_eq_true rfl)⟩) (w_recv hK hP1 (k := 0) (by decide) lyC0 (q := (RX5, TX5, 10)) rfl) rfl hl.1 rfl (Nat.le_of_ble_eq_true rfl) dL_slews_259 ⟨by show ca + 1 + 1 ≤ 200; omega, by show sl + 6 + 6 ≤ 1200; omega⟩ (fun r u H locs hw hP1 hS _ hkp => ?_)
        have hP0 := wld_kept hP0 (B := adS 69 bd) (fun k hk9 ⟨j, hj, e⟩ => hab k j hk9 hj e) hkp
        obtain ⟨er, hC1⟩ := sp_clock hC1 hw
        refine w_eql er ?_
        refine lv_lsub hx hb dL_slews_262 ?_
        refine lv_lload hx hb dL_slews_263 (lv_at hl 0 rfl) ?_
        refine jL_gt (tgt := 293) hx hb dL_slews_265 dL_slews_266 (by decide) (fun ck => absurd ck ((lp_lt hCa hCb hL hC0 hC1 hL').1 c249)) (fun _ => ?_)
        refine lv_goto (tgt := 289) hx hb dL_slews_269 (by decide) ?_
        refine lv_iconst (v := 1) hx hb dL_slews_289 (by decide) ?_
        refine lv_goto (tgt := 294) hx hb dL_slews_290 (by decide) ?_
        refine lv_istore (lv' := [(7, .int (1 : Int32)), (12, .long ((f_X6_reading Ma) - (f_X6_reading Mb))), (11, .int (nI i)), (8, .long b8), (5, .ref (ad (0))), (6, .ref (bd (0)))]) hx hb dL_slews_294 hl (by decide) rfl (fun ls hl => ?_)
        refine lv_iinc (v := nI (i + 1)) (lv' := [(11, .int (nI (i + 1))), (7, .int (1 : Int32)), (12, .long ((f_X6_reading Ma) - (f_X6_reading Mb))), (8, .long b8), (5, .ref (ad (0))), (6, .ref (bd (0)))]) hx hb dL_slews_296 hl (k := 2) rfl (show nI (i) + 1 = nI (i + 1) from nI_1 _) (by decide) rfl (fun ls hl => ?_)
        refine lv_goto (tgt := 197) hx hb dL_slews_299 (by decide) ?_
        exact ih (i + 1) b8 p' hb8 _ _ _ _ _ _ _ _ _ _ _ (by omega) (by omega) hL' hC0 hC1 hP0 hP1 hS (lv_sub hl [0, 3, 1, 4, 5] rfl) (by omega) (by omega)
      · refine lv_aload hx hb dL_slews_272 (lv_at hl 4 rfl) ?_
        refine kVl hx hb hml hown hts hK hP0 hS hA0 (As := []) (rest := []) (c_X5_clock l dC dI cA ad hI0 _ ) (mkV hts q_208 q_25 q_205 q_206 q_207 hyX5_clock rfl rfl ⟨(Nat.le_of_ble_eq_true rfl), (Nat.le_of_ble_eq_true rfl)⟩) (w_recv hK hP0 (k := 0) (by decide) lyC0 (q := (RX5, TX5, 10)) rfl) rfl hl.1 rfl (Nat.le_of_ble_eq_true rfl) dL_slews_274 ⟨by show ca + 1 + 1 ≤ 200; omega, by show sl + 6 + 6 ≤ 1200; omega⟩ (fun r u H locs hw hP0 hS _ hkp => ?_)
        have hP1 := wld_kept hP1 (B := adS 69 ad) (fun k hk9 ⟨j, hj, e⟩ => hab j k hj hk9 e.symm) hkp
        obtain ⟨er, hC0⟩ := sp_clock hC0 hw
        refine w_eql er ?_
        refine lv_aload hx hb dL_slews_277 (lv_at hl 5 rfl) ?_
        refine kVl hx hb hml hown hts hK hP1 hS hA1 (As := []) (rest := [.long (f_X6_reading (f_X6_goOn Ma (1000000000 : Int32)))]) (c_X5_clock l dC dI cA bd hI1 _ ) (mkV hts q_208 q_25 q_205 q_206 q_207 hyX5_clock rfl rfl ⟨(Nat.le_of_ble_eq_true rfl), (Nat.le_of_ble_eq_true rfl)⟩) (w_recv hK hP1 (k := 0) (by decide) lyC0 (q := (RX5, TX5, 10)) rfl) rfl hl.1 rfl (Nat.le_of_ble_eq_true rfl) dL_slews_279 ⟨by show ca + 1 + 1 ≤ 200; omega, by show sl + 6 + 6 ≤ 1200; omega⟩ (fun r u H locs hw hP1 hS _ hkp => ?_)
        have hP0 := wld_kept hP0 (B := adS 69 bd) (fun k hk9 ⟨j, hj, e⟩ => hab k j hk9 hj e) hkp
        obtain ⟨er, hC1⟩ := sp_clock hC1 hw
        refine w_eql er ?_
        refine lv_lsub hx hb dL_slews_282 ?_
        refine lv_lload hx hb dL_slews_283 (lv_at hl 0 rfl) ?_
        refine jL_lt (tgt := 293) hx hb dL_slews_285 dL_slews_286 (by decide) (fun ck => absurd ck ((lp_lt hCa hCb hL hC0 hC1 hL').2 c249)) (fun _ => ?_)
        refine lv_iconst (v := 1) hx hb dL_slews_289 (by decide) ?_
        refine lv_goto (tgt := 294) hx hb dL_slews_290 (by decide) ?_
        refine lv_istore (lv' := [(7, .int (1 : Int32)), (12, .long ((f_X6_reading Ma) - (f_X6_reading Mb))), (11, .int (nI i)), (8, .long b8), (5, .ref (ad (0))), (6, .ref (bd (0)))]) hx hb dL_slews_294 hl (by decide) rfl (fun ls hl => ?_)
        refine lv_iinc (v := nI (i + 1)) (lv' := [(11, .int (nI (i + 1))), (7, .int (1 : Int32)), (12, .long ((f_X6_reading Ma) - (f_X6_reading Mb))), (8, .long b8), (5, .ref (ad (0))), (6, .ref (bd (0)))]) hx hb dL_slews_296 hl (k := 2) rfl (show nI (i) + 1 = nI (i + 1) from nI_1 _) (by decide) rfl (fun ls hl => ?_)
        refine lv_goto (tgt := 197) hx hb dL_slews_299 (by decide) ?_
        exact ih (i + 1) b8 p' hb8 _ _ _ _ _ _ _ _ _ _ _ (by omega) (by omega) hL' hC0 hC1 hP0 hP1 hS (lv_sub hl [0, 3, 1, 4, 5] rfl) (by omega) (by omega)
    · have ei : i = 5 := by
        rcases Nat.lt_or_ge i 5 with q | q
        · exact absurd (nI_lt (a := i) (b := 5) q (by decide)) c200
        · omega
      exact s_slews_302 C ha ha2 hab  kend i b8 p9 ei _ _ _ _ _ _ _ _ _ _ _ hL hC0 hC1 hP0 hP1 hS (lv_sub hl [1, 2, 3, 4] rfl) (by omega) (by omega)
set_option maxHeartbeats 4000000 in
set_option maxRecDepth 100000 in
theorem s_slews_113 {p : Program} {l : Launch} {e : Env} {s : State} {m : MethodId} {args : Array Value} {below : List Frame} {meth : Method} {c : Code} {dC : Nat → ClassId} {dI : Nat → Nat → Nat} {cA : Nat → ClassId} {A : Nat → Prop} {ad bd : Nat → Nat} (C : LK p l s m c args cL_slews 14 dC dI cA A) (ha : CA A ad) (ha2 : CA A bd) (hab : AP ad bd)  {Q : State → Prop} (kend : ∀ (rpc : Nat), decode cL_slews rpc = .ok (.ireturn, 1) → ∀ (H : Heap) (locs : List Loc) (ls : Array Slot) (ca sl : Nat), va_S A s.heap H locs → ca ≤ 200 → sl ≤ 1200 → W p l e ({ frames := 11, cells := 200, slots := 1200, locals := 300 } : Room) s m args below meth c H locs ca sl Q (F0 m rpc ls [.int 1])) :
    ∀ (T P d : Int) (hT : 0 ≤ T ∧ T ≤ 200000) (hd : -300 ≤ d ∧ d ≤ 300) (hP9 : -300000000000 ≤ P) (Ma Mb : Mem) (ta tb : Int32) (M N : Mem) (H : Heap) (locs : List Loc) (ls : Array Slot) (ca sl : Nat), HS Ma T P 0 d → HS Mb T P 0 d → sn Ma = 1 → 0 < kn Ma 0 → (-500000 ≤ (offM Ma 0).toInt ∧ (offM Ma 0).toInt ≤ 500000) → gI Ma 4 = 0 →  CL Ma ta M → CL Mb tb N → va_P (dC, dI) vwCl (wld 69 layC cA ad M) H → va_P (dC, dI) vwCl (wld 69 layC cA bd N) H → va_S A s.heap H locs → lv_has ls 14 [(7, .int (1 : Int32)), (5, .ref (ad (0))), (6, .ref (bd (0)))] → ca ≤ 158 → sl ≤ 948 → W p l e ({ frames := 11, cells := 200, slots := 1200, locals := 300 } : Room) s m args below meth c H locs ca sl Q (F0 m 113 ls []) := by
  obtain ⟨hx, hb, hml, hown, hts, hK, hKX, hNC, hfl⟩ := id C
  obtain ⟨hI0, hA0⟩ := id ha
  obtain ⟨hI1, hA1⟩ := id ha2
  intro T P d hT hd hP9 Ma Mb ta tb M N H locs ls ca sl hH hF hs1 hk0 hof h4 hC0 hC1 hP0 hP1 hS hl hca hsl
  have hCs := hC0
  obtain ⟨⟨hmj, hne⟩, hmo⟩ := one_sv hC0 hs1 hk0
  refine lv_aload hx hb dL_slews_113 (lv_at hl 1 rfl) ?_
  refine kWl hx hb hml hown hts hK hP0 hS hKX hNC hA0 (As := [.ref (ad (0))]) (rest := []) (c_L_combined l hfl dC dI cA ad hI0 _ ) (mkSW hts q_747 q_24 q_745 q_746 hyL_combined rfl rfl ⟨(Nat.le_of_ble_eq_true rfl), (Nat.le_of_ble_eq_true rfl)⟩) rfl hl.1 rfl (Nat.le_of_ble_eq_true rfl) dL_slews_115 ⟨by show ca + 1 ≤ 200; omega, by show sl + 6 ≤ 1200; omega⟩ (fun r u H locs hw hP0 hS _ hkp => ?_)
  have hP1 := wld_kept hP1 (B := adS 69 ad) (fun k hk9 ⟨j, hj, e⟩ => hab j k hj hk9 e.symm) hkp
  obtain ⟨er, hC0⟩ := sp_comb hC0 hw
  refine w_eql er ?_
  refine lv_lstore (lv' := [(8, .long (meA Ma)), (7, .int (1 : Int32)), (5, .ref (ad (0))), (6, .ref (bd (0)))]) hx hb dL_slews_118 hl (by decide) rfl (fun ls hl => ?_)
  refine lv_iload hx hb dL_slews_120 (lv_at hl 1 rfl) ?_
  refine j0_eq (tgt := 133) hx hb dL_slews_122 (by decide) (fun ck => absurd ck ((by decide))) (fun _ => ?_)
  refine lv_aload hx hb dL_slews_125 (lv_at hl 2 rfl) ?_
  refine kWi hx hb hml hown hts hK hP0 hS hKX hNC hA0 (As := [.ref (ad (0))]) (rest := []) (c_L_synchronizes l hfl dC dI cA ad hI0 _ ) (mkSW hts q_652 q_24 q_650 q_651 hyL_synchronizes rfl rfl ⟨(Nat.le_of_ble_eq_true rfl), (Nat.le_of_ble_eq_true rfl)⟩) rfl hl.1 rfl (Nat.le_of_ble_eq_true rfl) dL_slews_127 ⟨by show ca + 1 + 1 ≤ 200; omega, by show sl + 6 + 6 ≤ 1200; omega⟩ (fun r u H locs hw hP0 hS _ hkp => ?_)
  have hP1 := wld_kept hP1 (B := adS 69 ad) (fun k hk9 ⟨j, hj, e⟩ => hab j k hj hk9 e.symm) hkp
  obtain ⟨er, hC0⟩ := sp_sync hC0 hw
  refine w_eqi er ?_
  refine lv_goto (tgt := 134) hx hb dL_slews_130 (by decide) ?_
  by_cases c128 : 128000 < meA Ma
  · refine w_eqi ((sy_r hCs hmj hne h4).trans (if_pos c128)) ?_
    have hsS := (sy_hs hCs hmj hne h4 hH (by rw [hmo]; exact hof)).1 c128
    refine lv_istore (lv' := [(10, .int (1 : Int32)), (8, .long (meA Ma)), (7, .int (1 : Int32)), (5, .ref (ad (0))), (6, .ref (bd (0)))]) hx hb dL_slews_134 hl (by decide) rfl (fun ls hl => ?_)
    refine lv_iload hx hb dL_slews_136 (lv_at hl 2 rfl) ?_
    refine j0_eq (tgt := 191) hx hb dL_slews_138 (by decide) (fun ck => absurd ck ((by decide))) (fun _ => ?_)
    refine lv_iload hx hb dL_slews_141 (lv_at hl 0 rfl) ?_
    refine lv_lload hx hb dL_slews_143 (lv_at hl 1 rfl) ?_
    refine lv_ldc2 (v := 128000) hx hb hown (hts _ q_824) dL_slews_145 ?_
    refine jL_le (tgt := 156) hx hb dL_slews_148 dL_slews_149 (by decide) (fun _ => ?_) (fun ck => absurd (c128) ck)
    refine lv_iconst (v := 1) hx hb dL_slews_152 (by decide) ?_
    refine lv_goto (tgt := 157) hx hb dL_slews_153 (by decide) ?_
    refine jI_ne (tgt := 191) hx hb dL_slews_157 (by decide) (fun _ => ?_) (fun ck => absurd ((by decide)) ck)
    refine lv_aload hx hb dL_slews_160 (lv_at hl 3 rfl) ?_
    refine kVl hx hb hml hown hts hK hP0 hS hA0 (As := []) (rest := []) (c_X5_clock l dC dI cA ad hI0 _ ) (mkV hts q_208 q_25 q_205 q_206 q_207 hyX5_clock rfl rfl ⟨(Nat.le_of_ble_eq_true rfl), (Nat.le_of_ble_eq_true rfl)⟩) (w_recv hK hP0 (k := 0) (by decide) lyC0 (q := (RX5, TX5, 10)) rfl) rfl hl.1 rfl (Nat.le_of_ble_eq_true rfl) dL_slews_162 ⟨by show ca + 1 + 1 ≤ 200; omega, by show sl + 6 + 6 ≤ 1200; omega⟩ (fun r u H locs hw hP0 hS _ hkp => ?_)
    have hP1 := wld_kept hP1 (B := adS 69 ad) (fun k hk9 ⟨j, hj, e⟩ => hab j k hj hk9 e.symm) hkp
    obtain ⟨er, hC0⟩ := sp_clock hC0 hw
    refine w_eql er ?_
    refine lv_aload hx hb dL_slews_165 (lv_at hl 4 rfl) ?_
    refine kVl hx hb hml hown hts hK hP1 hS hA1 (As := []) (rest := [.long (f_X6_reading (nrm (f_X6_synchronize Ma).2))]) (c_X5_clock l dC dI cA bd hI1 _ ) (mkV hts q_208 q_25 q_205 q_206 q_207 hyX5_clock rfl rfl ⟨(Nat.le_of_ble_eq_true rfl), (Nat.le_of_ble_eq_true rfl)⟩) (w_recv hK hP1 (k := 0) (by decide) lyC0 (q := (RX5, TX5, 10)) rfl) rfl hl.1 rfl (Nat.le_of_ble_eq_true rfl) dL_slews_167 ⟨by show ca + 1 + 1 ≤ 200; omega, by show sl + 6 + 6 ≤ 1200; omega⟩ (fun r u H locs hw hP1 hS _ hkp => ?_)
    have hP0 := wld_kept hP0 (B := adS 69 bd) (fun k hk9 ⟨j, hj, e⟩ => hab k j hk9 hj e) hkp
    obtain ⟨er, hC1⟩ := sp_clock hC1 hw
    refine w_eql er ?_
    refine lv_lsub hx hb dL_slews_170 ?_
    refine lv_iload hx hb dL_slews_171 (lv_at hl 0 rfl) ?_
    refine lv_iconst (v := 1) hx hb dL_slews_173 (by decide) ?_
    refine jI_ne (tgt := 182) hx hb dL_slews_174 (by decide) (fun _ => ?_) (fun ck => absurd ((by decide)) ck)
    refine lv_lload hx hb dL_slews_177 (lv_at hl 1 rfl) ?_
    refine lv_goto (tgt := 183) hx hb dL_slews_179 (by decide) ?_
    refine jL_ne (tgt := 191) hx hb dL_slews_183 dL_slews_184 (by decide) (fun _ => ?_) (fun ck => absurd (l_eq (df hC0 hC1 hsS hF)) ck)
    refine lv_iconst (v := 1) hx hb dL_slews_187 (by decide) ?_
    refine lv_goto (tgt := 192) hx hb dL_slews_188 (by decide) ?_
    refine lv_istore (lv' := [(7, .int (1 : Int32)), (10, .int (1 : Int32)), (8, .long (meA Ma)), (5, .ref (ad (0))), (6, .ref (bd (0)))]) hx hb dL_slews_192 hl (by decide) rfl (fun ls hl => ?_)
    refine lv_iconst (v := 0) hx hb dL_slews_194 (by decide) ?_
    refine lv_istore (lv' := [(11, .int (0 : Int32)), (7, .int (1 : Int32)), (10, .int (1 : Int32)), (8, .long (meA Ma)), (5, .ref (ad (0))), (6, .ref (bd (0)))]) hx hb dL_slews_195 hl (by decide) rfl (fun ls hl => ?_)
    exact s_slews_197 C ha ha2 hab  kend 6 0 _ P (by rw [hmo]; exact hof) _ _ _ _ _ _ _ _ _ _ _ (by omega) (by omega) (lp_0s hsS hF hT hd hP9) hC0 hC1 hP0 hP1 hS (lv_sub hl [0, 3, 1, 4, 5] rfl) (by omega) (by omega)
  · refine w_eqi ((sy_r hCs hmj hne h4).trans (if_neg c128)) ?_
    have hsN := (sy_hs hCs hmj hne h4 hH (by rw [hmo]; exact hof)).2 c128
    have hsZ := hs_z hsN
    refine lv_istore (lv' := [(10, .int (0 : Int32)), (8, .long (meA Ma)), (7, .int (1 : Int32)), (5, .ref (ad (0))), (6, .ref (bd (0)))]) hx hb dL_slews_134 hl (by decide) rfl (fun ls hl => ?_)
    refine lv_iload hx hb dL_slews_136 (lv_at hl 2 rfl) ?_
    refine j0_eq (tgt := 191) hx hb dL_slews_138 (by decide) (fun ck => absurd ck ((by decide))) (fun _ => ?_)
    refine lv_iload hx hb dL_slews_141 (lv_at hl 0 rfl) ?_
    refine lv_lload hx hb dL_slews_143 (lv_at hl 1 rfl) ?_
    refine lv_ldc2 (v := 128000) hx hb hown (hts _ q_824) dL_slews_145 ?_
    refine jL_le (tgt := 156) hx hb dL_slews_148 dL_slews_149 (by decide) (fun ck => absurd ck (c128)) (fun _ => ?_)
    refine lv_iconst (v := 0) hx hb dL_slews_156 (by decide) ?_
    refine jI_ne (tgt := 191) hx hb dL_slews_157 (by decide) (fun _ => ?_) (fun ck => absurd ((by decide)) ck)
    refine lv_aload hx hb dL_slews_160 (lv_at hl 3 rfl) ?_
    refine kVl hx hb hml hown hts hK hP0 hS hA0 (As := []) (rest := []) (c_X5_clock l dC dI cA ad hI0 _ ) (mkV hts q_208 q_25 q_205 q_206 q_207 hyX5_clock rfl rfl ⟨(Nat.le_of_ble_eq_true rfl), (Nat.le_of_ble_eq_true rfl)⟩) (w_recv hK hP0 (k := 0) (by decide) lyC0 (q := (RX5, TX5, 10)) rfl) rfl hl.1 rfl (Nat.le_of_ble_eq_true rfl) dL_slews_162 ⟨by show ca + 1 + 1 ≤ 200; omega, by show sl + 6 + 6 ≤ 1200; omega⟩ (fun r u H locs hw hP0 hS _ hkp => ?_)
    have hP1 := wld_kept hP1 (B := adS 69 ad) (fun k hk9 ⟨j, hj, e⟩ => hab j k hj hk9 e.symm) hkp
    obtain ⟨er, hC0⟩ := sp_clock hC0 hw
    refine w_eql er ?_
    refine lv_aload hx hb dL_slews_165 (lv_at hl 4 rfl) ?_
    refine kVl hx hb hml hown hts hK hP1 hS hA1 (As := []) (rest := [.long (f_X6_reading (nrm (f_X6_synchronize Ma).2))]) (c_X5_clock l dC dI cA bd hI1 _ ) (mkV hts q_208 q_25 q_205 q_206 q_207 hyX5_clock rfl rfl ⟨(Nat.le_of_ble_eq_true rfl), (Nat.le_of_ble_eq_true rfl)⟩) (w_recv hK hP1 (k := 0) (by decide) lyC0 (q := (RX5, TX5, 10)) rfl) rfl hl.1 rfl (Nat.le_of_ble_eq_true rfl) dL_slews_167 ⟨by show ca + 1 + 1 ≤ 200; omega, by show sl + 6 + 6 ≤ 1200; omega⟩ (fun r u H locs hw hP1 hS _ hkp => ?_)
    have hP0 := wld_kept hP0 (B := adS 69 bd) (fun k hk9 ⟨j, hj, e⟩ => hab k j hk9 hj e) hkp
    obtain ⟨er, hC1⟩ := sp_clock hC1 hw
    refine w_eql er ?_
    refine lv_lsub hx hb dL_slews_170 ?_
    refine lv_iload hx hb dL_slews_171 (lv_at hl 0 rfl) ?_
    refine lv_iconst (v := 1) hx hb dL_slews_173 (by decide) ?_
    refine jI_ne (tgt := 182) hx hb dL_slews_174 (by decide) (fun ck => absurd ck ((by decide))) (fun _ => ?_)
    refine lv_lconst (v := 0) hx hb dL_slews_182 (by decide) ?_
    refine jL_ne (tgt := 191) hx hb dL_slews_183 dL_slews_184 (by decide) (fun _ => ?_) (fun ck => absurd (l_eq ((df hC0 hC1 hsZ hF).trans (by decide))) ck)
    refine lv_iconst (v := 1) hx hb dL_slews_187 (by decide) ?_
    refine lv_goto (tgt := 192) hx hb dL_slews_188 (by decide) ?_
    refine lv_istore (lv' := [(7, .int (1 : Int32)), (10, .int (0 : Int32)), (8, .long (meA Ma)), (5, .ref (ad (0))), (6, .ref (bd (0)))]) hx hb dL_slews_192 hl (by decide) rfl (fun ls hl => ?_)
    refine lv_iconst (v := 0) hx hb dL_slews_194 (by decide) ?_
    refine lv_istore (lv' := [(11, .int (0 : Int32)), (7, .int (1 : Int32)), (10, .int (0 : Int32)), (8, .long (meA Ma)), (5, .ref (ad (0))), (6, .ref (bd (0)))]) hx hb dL_slews_195 hl (by decide) rfl (fun ls hl => ?_)
    exact s_slews_197 C ha ha2 hab  kend 6 0 _ P (by rw [hmo]; exact hof) _ _ _ _ _ _ _ _ _ _ _ (by omega) (by omega) (lp_0n hsN hF hT hd hP9) hC0 hC1 hP0 hP1 hS (lv_sub hl [0, 3, 1, 4, 5] rfl) (by omega) (by omega)
set_option maxHeartbeats 4000000 in
set_option maxRecDepth 100000 in
theorem s_slews_18 {p : Program} {l : Launch} {e : Env} {s : State} {m : MethodId} {args : Array Value} {below : List Frame} {meth : Method} {c : Code} {dC : Nat → ClassId} {dI : Nat → Nat → Nat} {cA : Nat → ClassId} {A : Nat → Prop} {ad bd : Nat → Nat} (C : LK p l s m c args cL_slews 14 dC dI cA A) (ha : CA A ad) (ha2 : CA A bd) (hab : AP ad bd) {st dr em ou ba : Int32} (hst : -200000 ≤ st.toInt ∧ st.toInt ≤ 200000) (hdr : -300 ≤ dr.toInt ∧ dr.toInt ≤ 300) (her : -200000 ≤ em.toInt ∧ em.toInt ≤ 200000) (hou : 0 ≤ ou.toInt ∧ ou.toInt ≤ 99999) (hba : 0 ≤ ba.toInt ∧ ba.toInt ≤ 99999) {Q : State → Prop} (kend : ∀ (rpc : Nat), decode cL_slews rpc = .ok (.ireturn, 1) → ∀ (H : Heap) (locs : List Loc) (ls : Array Slot) (ca sl : Nat), va_S A s.heap H locs → ca ≤ 200 → sl ≤ 1200 → W p l e ({ frames := 11, cells := 200, slots := 1200, locals := 300 } : Room) s m args below meth c H locs ca sl Q (F0 m rpc ls [.int 1])) :
    ∀  (Ma Mb : Mem) (ta tb : Int32) (M N : Mem) (H : Heap) (locs : List Loc) (ls : Array Slot) (ca sl : Nat),  CL Ma ta M → CL Mb tb N → va_P (dC, dI) vwCl (wld 69 layC cA ad M) H → va_P (dC, dI) vwCl (wld 69 layC cA bd N) H → va_S A s.heap H locs → lv_has ls 14 [(5, .ref (ad (0))), (6, .ref (bd (0))), (0, .int st), (1, .int dr), (2, .int em), (3, .int ou), (4, .int ba)] → ca ≤ 150 → sl ≤ 900 → W p l e ({ frames := 11, cells := 200, slots := 1200, locals := 300 } : Room) s m args below meth c H locs ca sl Q (F0 m 18 ls []) := by
  obtain ⟨hx, hb, hml, hown, hts, hK, hKX, hNC, hfl⟩ := id C
  obtain ⟨hI0, hA0⟩ := id ha
  obtain ⟨hI1, hA1⟩ := id ha2
  intro  Ma Mb ta tb M N H locs ls ca sl  hC0 hC1 hP0 hP1 hS hl hca hsl
  have hs9 : -1000000000 ≤ st.toInt ∧ st.toInt ≤ 1000000000 := by omega
  have hs1 := st_hs (Mm := Ma) hs9
  have hs2 := dr_hs hs1.1 hdr
  have hf1 := st_hs (Mm := Mb) hs9
  have hf2 := dr_hs hf1.1 hdr
  have hsn := hs2.2.1.trans hs1.2.1
  have hs3 := ad_hs (e := em) hs2.1
  refine lv_aload hx hb dL_slews_18 (lv_at hl 0 rfl) ?_
  refine lv_iload_n hx hb dL_slews_20 rfl (lv_at hl 2 rfl) ?_
  refine kWi hx hb hml hown hts hK hP0 hS hKX hNC hA0 (As := [.ref (ad (0)), .int st]) (rest := []) (c_L_started l hfl dC dI cA ad hI0 _ st) (mkSW hts q_239 q_24 q_237 q_238 hyL_started rfl rfl ⟨(Nat.le_of_ble_eq_true rfl), (Nat.le_of_ble_eq_true rfl)⟩) rfl hl.1 rfl (Nat.le_of_ble_eq_true rfl) dL_slews_21 ⟨by show ca + 1 ≤ 200; omega, by show sl + 6 ≤ 1200; omega⟩ (fun r u H locs hw hP0 hS _ hkp => ?_)
  have hP1 := wld_kept hP1 (B := adS 69 ad) (fun k hk9 ⟨j, hj, e⟩ => hab j k hj hk9 e.symm) hkp
  obtain ⟨er, hC0⟩ := sp_started hC0 hs9 hw
  refine w_eqi er ?_
  refine j0_ne (tgt := 110) hx hb dL_slews_24 (by decide) (fun _ => ?_) (fun ck => absurd ((by decide)) ck)
  refine lv_aload hx hb dL_slews_27 (lv_at hl 1 rfl) ?_
  refine lv_iload_n hx hb dL_slews_29 rfl (lv_at hl 2 rfl) ?_
  refine kWi hx hb hml hown hts hK hP1 hS hKX hNC hA1 (As := [.ref (bd (0)), .int st]) (rest := []) (c_L_started l hfl dC dI cA bd hI1 _ st) (mkSW hts q_239 q_24 q_237 q_238 hyL_started rfl rfl ⟨(Nat.le_of_ble_eq_true rfl), (Nat.le_of_ble_eq_true rfl)⟩) rfl hl.1 rfl (Nat.le_of_ble_eq_true rfl) dL_slews_30 ⟨by show ca + 1 + 1 ≤ 200; omega, by show sl + 6 + 6 ≤ 1200; omega⟩ (fun r u H locs hw hP1 hS _ hkp => ?_)
  have hP0 := wld_kept hP0 (B := adS 69 bd) (fun k hk9 ⟨j, hj, e⟩ => hab k j hk9 hj e) hkp
  obtain ⟨er, hC1⟩ := sp_started hC1 hs9 hw
  refine w_eqi er ?_
  refine j0_ne (tgt := 110) hx hb dL_slews_33 (by decide) (fun _ => ?_) (fun ck => absurd ((by decide)) ck)
  refine lv_aload hx hb dL_slews_36 (lv_at hl 0 rfl) ?_
  refine lv_iload_n hx hb dL_slews_38 rfl (lv_at hl 3 rfl) ?_
  refine kWi hx hb hml hown hts hK hP0 hS hKX hNC hA0 (As := [.ref (ad (0)), .int dr]) (rest := []) (c_L_drifts l hfl dC dI cA ad hI0 _ dr) (mkSW hts q_374 q_24 q_372 q_373 hyL_drifts rfl rfl ⟨(Nat.le_of_ble_eq_true rfl), (Nat.le_of_ble_eq_true rfl)⟩) rfl hl.1 rfl (Nat.le_of_ble_eq_true rfl) dL_slews_39 ⟨by show ca + 1 + 1 + 1 ≤ 200; omega, by show sl + 6 + 6 + 6 ≤ 1200; omega⟩ (fun r u H locs hw hP0 hS _ hkp => ?_)
  have hP1 := wld_kept hP1 (B := adS 69 ad) (fun k hk9 ⟨j, hj, e⟩ => hab j k hj hk9 e.symm) hkp
  obtain ⟨er, hC0⟩ := sp_drift_ok hC0 hdr hw
  refine w_eqi er ?_
  refine j0_ne (tgt := 110) hx hb dL_slews_42 (by decide) (fun _ => ?_) (fun ck => absurd (st_1 hs9) ck)
  refine lv_aload hx hb dL_slews_45 (lv_at hl 1 rfl) ?_
  refine lv_iload_n hx hb dL_slews_47 rfl (lv_at hl 3 rfl) ?_
  refine kWi hx hb hml hown hts hK hP1 hS hKX hNC hA1 (As := [.ref (bd (0)), .int dr]) (rest := []) (c_L_drifts l hfl dC dI cA bd hI1 _ dr) (mkSW hts q_374 q_24 q_372 q_373 hyL_drifts rfl rfl ⟨(Nat.le_of_ble_eq_true rfl), (Nat.le_of_ble_eq_true rfl)⟩) rfl hl.1 rfl (Nat.le_of_ble_eq_true rfl) dL_slews_48 ⟨by show ca + 1 + 1 + 1 + 1 ≤ 200; omega, by show sl + 6 + 6 + 6 + 6 ≤ 1200; omega⟩ (fun r u H locs hw hP1 hS _ hkp => ?_)
  have hP0 := wld_kept hP0 (B := adS 69 bd) (fun k hk9 ⟨j, hj, e⟩ => hab k j hk9 hj e) hkp
  obtain ⟨er, hC1⟩ := sp_drift_ok hC1 hdr hw
  refine w_eqi er ?_
  refine j0_ne (tgt := 110) hx hb dL_slews_51 (by decide) (fun _ => ?_) (fun ck => absurd (st_1 hs9) ck)
  refine lv_aload hx hb dL_slews_54 (lv_at hl 0 rfl) ?_
  refine lv_iconst (v := 2) hx hb dL_slews_56 (by decide) ?_
  refine lv_iload_n hx hb dL_slews_57 rfl (lv_at hl 4 rfl) ?_
  refine lv_iconst (v := 0) hx hb dL_slews_58 (by decide) ?_
  refine lv_iconst (v := 0) hx hb dL_slews_59 (by decide) ?_
  refine kWi hx hb hml hown hts hK hP0 hS hKX hNC hA0 (As := [.ref (ad (0)), .int (2 : Int32), .int em, .int (0 : Int32), .int (0 : Int32)]) (rest := []) (c_L_added l hfl dC dI cA ad hI0 _ (2 : Int32) em (0 : Int32) (0 : Int32)) (mkSW hts q_401 q_24 q_399 q_400 hyL_added rfl rfl ⟨(Nat.le_of_ble_eq_true rfl), (Nat.le_of_ble_eq_true rfl)⟩) rfl hl.1 rfl (Nat.le_of_ble_eq_true rfl) dL_slews_60 ⟨by show ca + 1 + 1 + 1 + 1 + 1 ≤ 200; omega, by show sl + 6 + 6 + 6 + 6 + 6 ≤ 1200; omega⟩ (fun r u H locs hw hP0 hS _ hkp => ?_)
  have hP1 := wld_kept hP1 (B := adS 69 ad) (fun k hk9 ⟨j, hj, e⟩ => hab j k hj hk9 e.symm) hkp
  obtain ⟨er, hC0⟩ := sp_add_1 hC0 hsn her hw
  refine w_eqi er ?_
  refine j0_ne (tgt := 110) hx hb dL_slews_63 (by decide) (fun _ => ?_) (fun ck => absurd ((by decide)) ck)
  have hs4 := ex_hs hC0 hs3.2.1 hs3.2.2.1 hs3.2.2.2.1 hs3.1 hst her hou hba
  have h49 := hs4.2.2.2.2.trans (hs3.2.2.2.2.trans (hs2.2.2.trans hs1.2.2))
  refine lv_aload hx hb dL_slews_66 (lv_at hl 0 rfl) ?_
  refine lv_iconst (v := 0) hx hb dL_slews_68 (by decide) ?_
  refine lv_iload_n hx hb dL_slews_69 rfl (lv_at hl 5 rfl) ?_
  refine lv_iconst (v := 0) hx hb dL_slews_70 (by decide) ?_
  refine lv_iload hx hb dL_slews_71 (lv_at hl 6 rfl) ?_
  refine kWl hx hb hml hown hts hK hP0 hS hKX hNC hA0 (As := [.ref (ad (0)), .int (0 : Int32), .int ou, .int (0 : Int32), .int ba]) (rest := []) (c_L_exchanged l hfl dC dI cA ad hI0 _ (0 : Int32) ou (0 : Int32) ba) (mkSW hts q_464 q_24 q_462 q_463 hyL_exchanged rfl rfl ⟨(Nat.le_of_ble_eq_true rfl), (Nat.le_of_ble_eq_true rfl)⟩) rfl hl.1 rfl (Nat.le_of_ble_eq_true rfl) dL_slews_73 ⟨by show ca + 1 + 1 + 1 + 1 + 1 + 2 ≤ 200; omega, by show sl + 6 + 6 + 6 + 6 + 6 + 12 ≤ 1200; omega⟩ (fun r u H locs hw hP0 hS _ hkp => ?_)
  have hP1 := wld_kept hP1 (B := adS 69 ad) (fun k hk9 ⟨j, hj, e⟩ => hab j k hj hk9 e.symm) hkp
  obtain ⟨er, hC0⟩ := sp_ex_1 hC0 hs3.2.1 hs3.1 hou hba hw
  refine w_eql er ?_
  refine lv_lconst (v := 0) hx hb dL_slews_76 (by decide) ?_
  refine jL_lt (tgt := 110) hx hb dL_slews_77 dL_slews_78 (by decide) (fun ck => absurd ck (xdl_nn)) (fun _ => ?_)
  refine lv_iload_n hx hb dL_slews_81 rfl (lv_at hl 5 rfl) ?_
  refine lv_iload hx hb dL_slews_82 (lv_at hl 6 rfl) ?_
  refine lv_iadd hx hb dL_slews_84 ?_
  refine j0_eq (tgt := 106) hx hb dL_slews_85 (by decide) (fun c85 => ?_) (fun c85 => ?_)
  · have ez := ob_z c85
    have hT9 : 0 ≤ (ou + ba).toInt ∧ (ou + ba).toInt ≤ 200000 := by rw [ez]; decide
    have hf9 : HS (nrm (f_X6_setDrift (nrm (f_X6_restart Mb st)) dr).2) (ou + ba).toInt (st.toInt * 1000000 + (ou + ba).toInt * (1000000 + dr.toInt)) 0 dr.toInt := by
      rw [ez, Int.zero_mul, Int.add_zero]
      exact hf2.1
    refine lv_iconst (v := 1) hx hb dL_slews_106 (by decide) ?_
    refine lv_goto (tgt := 111) hx hb dL_slews_107 (by decide) ?_
    refine lv_istore (lv' := [(7, .int (1 : Int32)), (5, .ref (ad (0))), (6, .ref (bd (0))), (0, .int st), (1, .int dr), (2, .int em), (3, .int ou), (4, .int ba)]) hx hb dL_slews_111 hl (by decide) rfl (fun ls hl => ?_)
    exact s_slews_113 C ha ha2 hab  kend (ou + ba).toInt (st.toInt * 1000000 + (ou + ba).toInt * (1000000 + dr.toInt)) dr.toInt hT9 hdr (P_lo hT9 hst.1 hdr) _ _ _ _ _ _ _ _ _ _ _ hs4.1 hf9 hs4.2.1 hs4.2.2.1 hs4.2.2.2.1 h49 hC0 hC1 hP0 hP1 hS (lv_sub hl [0, 1, 2] rfl) (by omega) (by omega)
  · have ho9 := ob_p hou hba c85
    have hT9 : 0 ≤ (ou + ba).toInt ∧ (ou + ba).toInt ≤ 200000 := ⟨by omega, ho9.2⟩
    have hf9 := hs_go (t := ou + ba) hC1.2.1.1 (by omega) hf2.1 (by omega)
    rw [Int.zero_add, Int.add_zero] at hf9
    refine lv_aload hx hb dL_slews_88 (lv_at hl 1 rfl) ?_
    refine lv_iload_n hx hb dL_slews_90 rfl (lv_at hl 5 rfl) ?_
    refine lv_iload hx hb dL_slews_91 (lv_at hl 6 rfl) ?_
    refine lv_iadd hx hb dL_slews_93 ?_
    refine kWl hx hb hml hown hts hK hP1 hS hKX hNC hA1 (As := [.ref (bd (0)), .int (ou + ba)]) (rest := []) (c_L_passed l hfl dC dI cA bd hI1 _ (ou + ba)) (mkSW hts q_329 q_24 q_327 q_328 hyL_passed rfl rfl ⟨(Nat.le_of_ble_eq_true rfl), (Nat.le_of_ble_eq_true rfl)⟩) rfl hl.1 rfl (Nat.le_of_ble_eq_true rfl) dL_slews_94 ⟨by show ca + 1 + 1 + 1 + 1 + 1 + 2 + 1 ≤ 200; omega, by show sl + 6 + 6 + 6 + 6 + 6 + 12 + 6 ≤ 1200; omega⟩ (fun r u H locs hw hP1 hS _ hkp => ?_)
    have hP0 := wld_kept hP0 (B := adS 69 bd) (fun k hk9 ⟨j, hj, e⟩ => hab k j hk9 hj e) hkp
    obtain ⟨er, hC1⟩ := sp_passed hC1 (by omega) (by rw [hf2.1.1]; omega) hw
    refine w_eql er ?_
    refine lv_aload hx hb dL_slews_97 (lv_at hl 0 rfl) ?_
    refine kVl hx hb hml hown hts hK hP0 hS hA0 (As := []) (rest := [.long (f_X6_reading (f_X6_goOn (nrm (f_X6_setDrift (nrm (f_X6_restart Mb st)) dr).2) (ou + ba)))]) (c_X5_clock l dC dI cA ad hI0 _ ) (mkV hts q_208 q_25 q_205 q_206 q_207 hyX5_clock rfl rfl ⟨(Nat.le_of_ble_eq_true rfl), (Nat.le_of_ble_eq_true rfl)⟩) (w_recv hK hP0 (k := 0) (by decide) lyC0 (q := (RX5, TX5, 10)) rfl) rfl hl.1 rfl (Nat.le_of_ble_eq_true rfl) dL_slews_99 ⟨by show ca + 1 + 1 + 1 + 1 + 1 + 2 + 1 ≤ 200; omega, by show sl + 6 + 6 + 6 + 6 + 6 + 12 + 6 ≤ 1200; omega⟩ (fun r u H locs hw hP0 hS _ hkp => ?_)
    have hP1 := wld_kept hP1 (B := adS 69 ad) (fun k hk9 ⟨j, hj, e⟩ => hab j k hj hk9 e.symm) hkp
    obtain ⟨er, hC0⟩ := sp_clock hC0 hw
    refine w_eql er ?_
    refine jL_ne (tgt := 110) hx hb dL_slews_102 dL_slews_103 (by decide) (fun _ => ?_) (fun ck => absurd (rd_same hf9 hs4.1) ck)
    refine lv_iconst (v := 1) hx hb dL_slews_106 (by decide) ?_
    refine lv_goto (tgt := 111) hx hb dL_slews_107 (by decide) ?_
    refine lv_istore (lv' := [(7, .int (1 : Int32)), (5, .ref (ad (0))), (6, .ref (bd (0))), (0, .int st), (1, .int dr), (2, .int em), (3, .int ou), (4, .int ba)]) hx hb dL_slews_111 hl (by decide) rfl (fun ls hl => ?_)
    exact s_slews_113 C ha ha2 hab  kend (ou + ba).toInt (st.toInt * 1000000 + (ou + ba).toInt * (1000000 + dr.toInt)) dr.toInt hT9 hdr (P_lo hT9 hst.1 hdr) _ _ _ _ _ _ _ _ _ _ _ hs4.1 hf9 hs4.2.1 hs4.2.2.1 hs4.2.2.2.1 h49 hC0 hC1 hP0 hP1 hS (lv_sub hl [0, 1, 2] rfl) (by omega) (by omega)
theorem hyL_slews : yL_slews.cls ≠ "java/lang/invoke/MethodHandle" ∧ yL_slews.cls ≠ "java/lang/invoke/VarHandle" ∧ (parseMethodDescriptor yL_slews.desc).map (fun d => d.parameters.length) = some 5 := by decide +kernel
set_option maxHeartbeats 4000000 in
set_option maxRecDepth 100000 in
theorem c_L_slews (l : Launch) (hfl : l.stackTraces = false) (dC : Nat → ClassId) (dI : Nat → Nat → Nat) (cA : Nat → ClassId) {st dr em ou ba : Int32} (hst : -200000 ≤ st.toInt ∧ st.toInt ≤ 200000) (hdr : -300 ≤ dr.toInt ∧ dr.toInt ≤ 300) (her : -200000 ≤ em.toInt ∧ em.toInt ≤ 200000) (hou : 0 ≤ ou.toInt ∧ ou.toInt ≤ 99999) (hba : 0 ≤ ba.toInt ∧ ba.toInt ≤ 99999) : Met l yL_slews (.code yL_slews cL_slews 14 (some .boolean) :: AG) ({ frames := 11, cells := 200, slots := 1200, locals := 300 } : Room) (va_Pc [.int st, .int dr, .int em, .int ou, .int ba] (PS dC dI cA)) (va_Qi (fun r (_ : Unit) => r = 1) (fun _ _ => True) (fun _ => False)) 200 1200 (fun _ => False) := by
  refine sMet0 (by decide) (Nat.le_of_ble_eq_true rfl) ?_
  intro p e s m below meth c ls hx hb hr hml hlocks hown hts hK hl hKX hNC hNG
  have hA : ∀ q : Nat, s.heap.size ≤ q → (fun q : Nat => s.heap.size ≤ q) q := fun _ h => h
  have hS : va_S (fun q : Nat => s.heap.size ≤ q) s.heap s.heap [] := va_S.rf
  have hP : va_P (dC, dI) vwCl [] s.heap := fun k q h => by simp at h
  have hD0 : va_D (fun q : Nat => s.heap.size ≤ q) [] := ⟨fun i j p q h => by simp at h, fun k q h => by simp at h⟩
  have hl : lv_has ls 14 [(0, .int st), (1, .int dr), (2, .int em), (3, .int ou), (4, .int ba)] := hl
  refine n_newP (S := Nat → Nat) (C := RX5) (ci := 5) (fs := [.null, .null, .null, .null, .int 0, .long 0, .int 0, .int 0, .int 0, .long 0]) (ws := []) (w1 := fun q0 (u : Nat → Nat) => wld 69 layC cA (ad0 q0 u) (f_X5_begin M0c 0)) hx hb hml hts in_X5 tyX5 tyX5_ok hown q_39 q_40 q_25 hK hP hD0 hS hA hNG rfl (by decide) (fun q sz => c_X5_init l dC dI cA q sz) q_43 rfl rfl q_41 q_42 hyX5_init rfl rfl ⟨(Nat.le_of_ble_eq_true rfl), (Nat.le_of_ble_eq_true rfl)⟩ hl.1 (Nat.le_of_ble_eq_true rfl) dL_slews_0 dL_slews_3 dL_slews_4 (Nat.le_of_ble_eq_true rfl) (Nat.le_of_ble_eq_true rfl) (fun q0 u H locs hP hD0 hS => ?_)
  have hP : va_P (dC, dI) vwCl (wld 69 layC cA (ad0 q0 u) (f_X5_begin M0c 0)) H := hP
  have hD0 : va_D (fun q : Nat => s.heap.size ≤ q) (wld 69 layC cA (ad0 q0 u) (f_X5_begin M0c 0)) := hD0
  refine lv_astore (lv' := [(5, .ref q0), (0, .int st), (1, .int dr), (2, .int em), (3, .int ou), (4, .int ba)]) hx hb dL_slews_7 hl (by decide) rfl (fun ls hl => ?_)
  refine n_newP (S := Nat → Nat) (C := RX5) (ci := 5) (fs := [.null, .null, .null, .null, .int 0, .long 0, .int 0, .int 0, .int 0, .long 0]) (ws := (wld 69 layC cA (ad0 q0 u) (f_X5_begin M0c 0))) (w1 := fun q0 (u : Nat → Nat) => wld 69 layC cA (ad0 q0 u) (f_X5_begin M0c 0)) hx hb hml hts in_X5 tyX5 tyX5_ok hown q_39 q_40 q_25 hK hP hD0 hS hA hNG rfl (by decide) (fun q sz => c_X5_init l dC dI cA q sz) q_43 rfl rfl q_41 q_42 hyX5_init rfl rfl ⟨(Nat.le_of_ble_eq_true rfl), (Nat.le_of_ble_eq_true rfl)⟩ hl.1 (Nat.le_of_ble_eq_true rfl) dL_slews_9 dL_slews_12 dL_slews_13 (Nat.le_of_ble_eq_true rfl) (Nat.le_of_ble_eq_true rfl) (fun q1 v H locs hP hD0 hS => ?_)
  refine lv_astore (lv' := [(6, .ref q1), (5, .ref q0), (0, .int st), (1, .int dr), (2, .int em), (3, .int ou), (4, .int ba)]) hx hb dL_slews_16 hl (by decide) rfl (fun ls hl => ?_)
  have hga : ∀ q, adS 69 (ad0 q0 u) q → s.heap.size ≤ q := fun q ⟨k, hk, e⟩ => e ▸ hD0.left.2 k _ (wld_at hk)
  have hgb : ∀ q, adS 69 (ad0 q1 v) q → s.heap.size ≤ q := fun q ⟨k, hk, e⟩ => e ▸ hD0.right.2 k _ (wld_at hk)
  have hab : AP (ad0 q0 u) (ad0 q1 v) := fun i j hi hj => D_apart hD0 (wld_at hi) (wld_at hj)
  refine W.widen (k := 150) (n := 900) (Nat.le_of_ble_eq_true rfl) (Nat.le_of_ble_eq_true rfl) ?_
  exact s_slews_18 (ad := ad0 q0 u) (bd := ad0 q1 v) (A := fun q => s.heap.size ≤ q) ⟨hx, hb, hml, hown, hts, hK, hKX, hNC, hfl⟩ ⟨Inj_of hD0.left, hga⟩ ⟨Inj_of hD0.right, hgb⟩ hab hst hdr her hou hba (fun rpc hd H locs ls ca sl hS1 hca hsl => va_forget hS1.2.2 (W.widen hca hsl (W.zret hx hb hr (v := 1) rfl (fun t ht hW => ⟨⟨1, (), rfl, rfl, trivial⟩, by rw [ht]; exact hS1.1, fun q h1 h2 => by rw [ht]; exact hS1.2.1 q h1 (Nat.not_le.mpr h1)⟩) (fun q h => nomatch h) hd))) _ _ _ _ _ _ _ _ _ 150 900 CL0 CL0 hP.left hP.right hS (lv_sub hl [1, 0, 2, 3, 4, 5, 6] rfl) (by omega) (by omega)
