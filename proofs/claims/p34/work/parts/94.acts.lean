/-! acts: both clients do the same -/
set_option maxHeartbeats 4000000 in
set_option maxRecDepth 100000 in
theorem s_acts_325 {p : Program} {l : Launch} {e : Env} {s : State} {m : MethodId} {args : Array Value} {below : List Frame} {meth : Method} {c : Code} {dC : Nat → ClassId} {dI : Nat → Nat → Nat} {cA : Nat → ClassId} {A : Nat → Prop} {ad bd : Nat → Nat} {Mm : Mem} {t : Int32} {x : Int32} (C : LK p l s m c args cL_acts 11 dC dI cA A) (ha : CA A ad) (ha2 : CA A bd) (hab : AP ad bd) (hx0 : 0 ≤ x.toInt) (hnow : nowI Mm ≤ 990000000000) {Q : State → Prop} (kend : ∀ (rpc : Nat), decode cL_acts rpc = .ok (.ireturn, 1) → ∀ (M N : Mem) (H : Heap) (locs : List Loc) (ls : Array Slot) (ca sl : Nat), (∃ (Mm' : Mem) (t' : Int32), CL Mm' t' M ∧ CL Mm' t' N ∧ GOOD Mm Mm') → va_P (dC, dI) vwCl (wld 69 layC cA ad M) H → va_P (dC, dI) vwCl (wld 69 layC cA bd N) H → va_S A s.heap H locs → ca ≤ 10 → sl ≤ 60 → W p l e ({ frames := 11, cells := 10, slots := 60, locals := 300 } : Room) s m args below meth c H locs ca sl Q (F0 m rpc ls [.int 1])) :
    ∀ (y act : Int32) (M N : Mem) (H : Heap) (locs : List Loc) (ls : Array Slot) (ca sl : Nat),  CL Mm t M → CL Mm t N → va_P (dC, dI) vwCl (wld 69 layC cA ad M) H → va_P (dC, dI) vwCl (wld 69 layC cA bd N) H → va_S A s.heap H locs → lv_has ls 11 [(4, .int act), (3, .int y), (0, .ref (ad (0))), (1, .ref (bd (0)))] → ca ≤ 0 → sl ≤ 0 → W p l e ({ frames := 11, cells := 10, slots := 60, locals := 300 } : Room) s m args below meth c H locs ca sl Q (F0 m 325 ls []) := by
  obtain ⟨hx, hb, hml, hown, hts, hK, hKX, hNC, hfl⟩ := id C
  obtain ⟨hI0, hA0⟩ := id ha
  obtain ⟨hI1, hA1⟩ := id ha2
  intro y act M N H locs ls ca sl  hC0 hC1 hP0 hP1 hS hl hca hsl
  have hCs := hC0
  refine lv_iload hx hb dL_acts_325 (lv_at hl 0 rfl) ?_
  refine lv_bipush (v := 12) hx hb dL_acts_327 (by decide) ?_
  refine jI_ne (tgt := 367) hx hb dL_acts_329 (by decide) (fun c329 => ?_) (fun c329 => ?_)
  · refine lv_aload_n hx hb dL_acts_332 rfl (lv_at hl 2 rfl) ?_
    refine lv_iload_n hx hb dL_acts_333 rfl (lv_at hl 1 rfl) ?_
    refine lv_sipush (v := 601) hx hb dL_acts_334 (by decide) ?_
    refine lv_irem hx hb dL_acts_337 (by decide) ?_
    refine w_eqi (y := rem y (601 : Int32)) rfl ?_
    refine lv_sipush (v := 300) hx hb dL_acts_338 (by decide) ?_
    refine lv_isub hx hb dL_acts_341 ?_
    refine kWi hx hb hml hown hts hK hP0 hS hKX hNC hA0 (As := [.ref (ad (0)), .int ((rem y (601 : Int32)) - (300 : Int32))]) (rest := []) (c_L_drifts l hfl dC dI cA ad hI0 _ ((rem y (601 : Int32)) - (300 : Int32))) (mkSW hts q_374 q_24 q_372 q_373 hyL_drifts rfl rfl ⟨(Nat.le_of_ble_eq_true rfl), (Nat.le_of_ble_eq_true rfl)⟩) rfl hl.1 rfl (Nat.le_of_ble_eq_true rfl) dL_acts_342 ⟨by show ca + 1 ≤ 10; omega, by show sl + 6 ≤ 60; omega⟩ (fun r u H locs hw hP0 hS _ hkp => ?_)
    have hP1 := wld_kept hP1 (B := adS 69 ad) (fun k hk9 ⟨j, hj, e⟩ => hab j k hj hk9 e.symm) hkp
    obtain ⟨er, hC0⟩ := sp_drifts hC0 hw
    refine w_eqi er ?_
    refine lv_aload_n hx hb dL_acts_345 rfl (lv_at hl 3 rfl) ?_
    refine lv_iload_n hx hb dL_acts_346 rfl (lv_at hl 1 rfl) ?_
    refine lv_sipush (v := 601) hx hb dL_acts_347 (by decide) ?_
    refine lv_irem hx hb dL_acts_350 (by decide) ?_
    refine w_eqi (y := rem y (601 : Int32)) rfl ?_
    refine lv_sipush (v := 300) hx hb dL_acts_351 (by decide) ?_
    refine lv_isub hx hb dL_acts_354 ?_
    refine kWi hx hb hml hown hts hK hP1 hS hKX hNC hA1 (As := [.ref (bd (0)), .int ((rem y (601 : Int32)) - (300 : Int32))]) (rest := [.int (ansI bkI (f_X6_setDrift Mm ((rem y (601 : Int32)) - (300 : Int32))))]) (c_L_drifts l hfl dC dI cA bd hI1 _ ((rem y (601 : Int32)) - (300 : Int32))) (mkSW hts q_374 q_24 q_372 q_373 hyL_drifts rfl rfl ⟨(Nat.le_of_ble_eq_true rfl), (Nat.le_of_ble_eq_true rfl)⟩) rfl hl.1 rfl (Nat.le_of_ble_eq_true rfl) dL_acts_355 ⟨by show ca + 1 + 1 ≤ 10; omega, by show sl + 6 + 6 ≤ 60; omega⟩ (fun r u H locs hw hP1 hS _ hkp => ?_)
    have hP0 := wld_kept hP0 (B := adS 69 bd) (fun k hk9 ⟨j, hj, e⟩ => hab k j hk9 hj e) hkp
    obtain ⟨er, hC1⟩ := sp_drifts hC1 hw
    refine w_eqi er ?_
    refine jI_ne (tgt := 365) hx hb dL_acts_358 (by decide) (fun _ => ?_) (fun ck => absurd (rfl) ck)
    refine lv_iconst (v := 1) hx hb dL_acts_361 (by decide) ?_
    refine lv_goto (tgt := 366) hx hb dL_acts_362 (by decide) ?_
    exact kend 366 dL_acts_366 _ _ _ _ _ _ _ (⟨_, _, hC0, hC1, good_drift hCs hC0⟩) hP0 hP1 hS (by omega) (by omega)
  · refine lv_iload hx hb dL_acts_367 (lv_at hl 0 rfl) ?_
    refine lv_bipush (v := 13) hx hb dL_acts_369 (by decide) ?_
    refine jI_ne (tgt := 420) hx hb dL_acts_371 (by decide) (fun c371 => ?_) (fun c371 => ?_)
    · refine lv_aload_n hx hb dL_acts_374 rfl (lv_at hl 2 rfl) ?_
      refine lv_iload_n hx hb dL_acts_375 rfl (lv_at hl 1 rfl) ?_
      refine lv_iconst (v := 3) hx hb dL_acts_376 (by decide) ?_
      refine lv_irem hx hb dL_acts_377 (by decide) ?_
      refine w_eqi (y := rem y (3 : Int32)) rfl ?_
      refine lv_iload_n hx hb dL_acts_378 rfl (lv_at hl 1 rfl) ?_
      refine lv_iconst (v := 2) hx hb dL_acts_379 (by decide) ?_
      refine lv_irem hx hb dL_acts_380 (by decide) ?_
      refine w_eqi (y := rem y (2 : Int32)) rfl ?_
      refine j0_ne (tgt := 388) hx hb dL_acts_381 (by decide) (fun c381 => ?_) (fun c381 => ?_)
      · refine lv_iconst (v := 1) hx hb dL_acts_384 (by decide) ?_
        refine lv_goto (tgt := 389) hx hb dL_acts_385 (by decide) ?_
        refine kWl hx hb hml hown hts hK hP0 hS hKX hNC hA0 (As := [.ref (ad (0)), .int (rem y (3 : Int32)), .int (1 : Int32)]) (rest := []) (c_L_announced l hfl dC dI cA ad hI0 _ (rem y (3 : Int32)) (1 : Int32)) (mkSW hts q_385 q_24 q_383 q_384 hyL_announced rfl rfl ⟨(Nat.le_of_ble_eq_true rfl), (Nat.le_of_ble_eq_true rfl)⟩) rfl hl.1 rfl (Nat.le_of_ble_eq_true rfl) dL_acts_389 ⟨by show ca + 1 ≤ 10; omega, by show sl + 6 ≤ 60; omega⟩ (fun r u H locs hw hP0 hS _ hkp => ?_)
        have hP1 := wld_kept hP1 (B := adS 69 ad) (fun k hk9 ⟨j, hj, e⟩ => hab j k hj hk9 e.symm) hkp
        obtain ⟨er, hC0⟩ := sp_announced hC0 hw
        refine w_eql er ?_
        refine lv_aload_n hx hb dL_acts_392 rfl (lv_at hl 3 rfl) ?_
        refine lv_iload_n hx hb dL_acts_393 rfl (lv_at hl 1 rfl) ?_
        refine lv_iconst (v := 3) hx hb dL_acts_394 (by decide) ?_
        refine lv_irem hx hb dL_acts_395 (by decide) ?_
        refine w_eqi (y := rem y (3 : Int32)) rfl ?_
        refine lv_iload_n hx hb dL_acts_396 rfl (lv_at hl 1 rfl) ?_
        refine lv_iconst (v := 2) hx hb dL_acts_397 (by decide) ?_
        refine lv_irem hx hb dL_acts_398 (by decide) ?_
        refine w_eqi (y := rem y (2 : Int32)) rfl ?_
        refine j0_ne (tgt := 406) hx hb dL_acts_399 (by decide) (fun _ => ?_) (fun ck => absurd (c381) ck)
        refine lv_iconst (v := 1) hx hb dL_acts_402 (by decide) ?_
        refine lv_goto (tgt := 407) hx hb dL_acts_403 (by decide) ?_
        refine kWl hx hb hml hown hts hK hP1 hS hKX hNC hA1 (As := [.ref (bd (0)), .int (rem y (3 : Int32)), .int (1 : Int32)]) (rest := [.long (ansL bkL (f_X6_announceLeap Mm (rem y (3 : Int32)) (1 : Int32)))]) (c_L_announced l hfl dC dI cA bd hI1 _ (rem y (3 : Int32)) (1 : Int32)) (mkSW hts q_385 q_24 q_383 q_384 hyL_announced rfl rfl ⟨(Nat.le_of_ble_eq_true rfl), (Nat.le_of_ble_eq_true rfl)⟩) rfl hl.1 rfl (Nat.le_of_ble_eq_true rfl) dL_acts_407 ⟨by show ca + 1 + 1 ≤ 10; omega, by show sl + 6 + 6 ≤ 60; omega⟩ (fun r u H locs hw hP1 hS _ hkp => ?_)
        have hP0 := wld_kept hP0 (B := adS 69 bd) (fun k hk9 ⟨j, hj, e⟩ => hab k j hk9 hj e) hkp
        obtain ⟨er, hC1⟩ := sp_announced hC1 hw
        refine w_eql er ?_
        refine jL_ne (tgt := 418) hx hb dL_acts_410 dL_acts_411 (by decide) (fun _ => ?_) (fun ck => absurd (rfl) ck)
        refine lv_iconst (v := 1) hx hb dL_acts_414 (by decide) ?_
        refine lv_goto (tgt := 419) hx hb dL_acts_415 (by decide) ?_
        exact kend 419 dL_acts_419 _ _ _ _ _ _ _ (⟨_, _, hC0, hC1, good_ann hCs hC0⟩) hP0 hP1 hS (by omega) (by omega)
      · refine lv_iconst (v := 0) hx hb dL_acts_388 (by decide) ?_
        refine kWl hx hb hml hown hts hK hP0 hS hKX hNC hA0 (As := [.ref (ad (0)), .int (rem y (3 : Int32)), .int (0 : Int32)]) (rest := []) (c_L_announced l hfl dC dI cA ad hI0 _ (rem y (3 : Int32)) (0 : Int32)) (mkSW hts q_385 q_24 q_383 q_384 hyL_announced rfl rfl ⟨(Nat.le_of_ble_eq_true rfl), (Nat.le_of_ble_eq_true rfl)⟩) rfl hl.1 rfl (Nat.le_of_ble_eq_true rfl) dL_acts_389 ⟨by show ca + 1 ≤ 10; omega, by show sl + 6 ≤ 60; omega⟩ (fun r u H locs hw hP0 hS _ hkp => ?_)
        have hP1 := wld_kept hP1 (B := adS 69 ad) (fun k hk9 ⟨j, hj, e⟩ => hab j k hj hk9 e.symm) hkp
        obtain ⟨er, hC0⟩ := sp_announced hC0 hw
        refine w_eql er ?_
        refine lv_aload_n hx hb dL_acts_392 rfl (lv_at hl 3 rfl) ?_
        refine lv_iload_n hx hb dL_acts_393 rfl (lv_at hl 1 rfl) ?_
        refine lv_iconst (v := 3) hx hb dL_acts_394 (by decide) ?_
        refine lv_irem hx hb dL_acts_395 (by decide) ?_
        refine w_eqi (y := rem y (3 : Int32)) rfl ?_
        refine lv_iload_n hx hb dL_acts_396 rfl (lv_at hl 1 rfl) ?_
        refine lv_iconst (v := 2) hx hb dL_acts_397 (by decide) ?_
        refine lv_irem hx hb dL_acts_398 (by decide) ?_
        refine w_eqi (y := rem y (2 : Int32)) rfl ?_
        refine j0_ne (tgt := 406) hx hb dL_acts_399 (by decide) (fun ck => absurd ck (c381)) (fun _ => ?_)
        refine lv_iconst (v := 0) hx hb dL_acts_406 (by decide) ?_
        refine kWl hx hb hml hown hts hK hP1 hS hKX hNC hA1 (As := [.ref (bd (0)), .int (rem y (3 : Int32)), .int (0 : Int32)]) (rest := [.long (ansL bkL (f_X6_announceLeap Mm (rem y (3 : Int32)) (0 : Int32)))]) (c_L_announced l hfl dC dI cA bd hI1 _ (rem y (3 : Int32)) (0 : Int32)) (mkSW hts q_385 q_24 q_383 q_384 hyL_announced rfl rfl ⟨(Nat.le_of_ble_eq_true rfl), (Nat.le_of_ble_eq_true rfl)⟩) rfl hl.1 rfl (Nat.le_of_ble_eq_true rfl) dL_acts_407 ⟨by show ca + 1 + 1 ≤ 10; omega, by show sl + 6 + 6 ≤ 60; omega⟩ (fun r u H locs hw hP1 hS _ hkp => ?_)
        have hP0 := wld_kept hP0 (B := adS 69 bd) (fun k hk9 ⟨j, hj, e⟩ => hab k j hk9 hj e) hkp
        obtain ⟨er, hC1⟩ := sp_announced hC1 hw
        refine w_eql er ?_
        refine jL_ne (tgt := 418) hx hb dL_acts_410 dL_acts_411 (by decide) (fun _ => ?_) (fun ck => absurd (rfl) ck)
        refine lv_iconst (v := 1) hx hb dL_acts_414 (by decide) ?_
        refine lv_goto (tgt := 419) hx hb dL_acts_415 (by decide) ?_
        exact kend 419 dL_acts_419 _ _ _ _ _ _ _ (⟨_, _, hC0, hC1, good_ann hCs hC0⟩) hP0 hP1 hS (by omega) (by omega)
    · refine lv_aload_n hx hb dL_acts_420 rfl (lv_at hl 2 rfl) ?_
      refine kWi hx hb hml hown hts hK hP0 hS hKX hNC hA0 (As := [.ref (ad (0))]) (rest := []) (c_L_synchronizes l hfl dC dI cA ad hI0 _ ) (mkSW hts q_652 q_24 q_650 q_651 hyL_synchronizes rfl rfl ⟨(Nat.le_of_ble_eq_true rfl), (Nat.le_of_ble_eq_true rfl)⟩) rfl hl.1 rfl (Nat.le_of_ble_eq_true rfl) dL_acts_421 ⟨by show ca + 1 ≤ 10; omega, by show sl + 6 ≤ 60; omega⟩ (fun r u H locs hw hP0 hS _ hkp => ?_)
      have hP1 := wld_kept hP1 (B := adS 69 ad) (fun k hk9 ⟨j, hj, e⟩ => hab j k hj hk9 e.symm) hkp
      obtain ⟨er, hC0⟩ := sp_sync hC0 hw
      refine w_eqi er ?_
      refine lv_aload_n hx hb dL_acts_424 rfl (lv_at hl 3 rfl) ?_
      refine kWi hx hb hml hown hts hK hP1 hS hKX hNC hA1 (As := [.ref (bd (0))]) (rest := [.int (ansI bkS (f_X6_synchronize Mm))]) (c_L_synchronizes l hfl dC dI cA bd hI1 _ ) (mkSW hts q_652 q_24 q_650 q_651 hyL_synchronizes rfl rfl ⟨(Nat.le_of_ble_eq_true rfl), (Nat.le_of_ble_eq_true rfl)⟩) rfl hl.1 rfl (Nat.le_of_ble_eq_true rfl) dL_acts_425 ⟨by show ca + 1 + 1 ≤ 10; omega, by show sl + 6 + 6 ≤ 60; omega⟩ (fun r u H locs hw hP1 hS _ hkp => ?_)
      have hP0 := wld_kept hP0 (B := adS 69 bd) (fun k hk9 ⟨j, hj, e⟩ => hab k j hk9 hj e) hkp
      obtain ⟨er, hC1⟩ := sp_sync hC1 hw
      refine w_eqi er ?_
      refine jI_ne (tgt := 435) hx hb dL_acts_428 (by decide) (fun _ => ?_) (fun ck => absurd (rfl) ck)
      refine lv_iconst (v := 1) hx hb dL_acts_431 (by decide) ?_
      refine lv_goto (tgt := 436) hx hb dL_acts_432 (by decide) ?_
      exact kend 436 dL_acts_436 _ _ _ _ _ _ _ (⟨_, _, hC0, hC1, good_sync hCs hC0⟩) hP0 hP1 hS (by omega) (by omega)
set_option maxHeartbeats 4000000 in
set_option maxRecDepth 100000 in
theorem s_acts_240 {p : Program} {l : Launch} {e : Env} {s : State} {m : MethodId} {args : Array Value} {below : List Frame} {meth : Method} {c : Code} {dC : Nat → ClassId} {dI : Nat → Nat → Nat} {cA : Nat → ClassId} {A : Nat → Prop} {ad bd : Nat → Nat} {Mm : Mem} {t : Int32} {x : Int32} (C : LK p l s m c args cL_acts 11 dC dI cA A) (ha : CA A ad) (ha2 : CA A bd) (hab : AP ad bd) (hx0 : 0 ≤ x.toInt) (hnow : nowI Mm ≤ 990000000000) {Q : State → Prop} (kend : ∀ (rpc : Nat), decode cL_acts rpc = .ok (.ireturn, 1) → ∀ (M N : Mem) (H : Heap) (locs : List Loc) (ls : Array Slot) (ca sl : Nat), (∃ (Mm' : Mem) (t' : Int32), CL Mm' t' M ∧ CL Mm' t' N ∧ GOOD Mm Mm') → va_P (dC, dI) vwCl (wld 69 layC cA ad M) H → va_P (dC, dI) vwCl (wld 69 layC cA bd N) H → va_S A s.heap H locs → ca ≤ 10 → sl ≤ 60 → W p l e ({ frames := 11, cells := 10, slots := 60, locals := 300 } : Room) s m args below meth c H locs ca sl Q (F0 m rpc ls [.int 1])) :
    ∀ (y all : Int32) (hy : 0 ≤ y.toInt) (hall : 3 ≤ all.toInt ∧ all.toInt ≤ 900000002) (M N : Mem) (H : Heap) (locs : List Loc) (ls : Array Slot) (ca sl : Nat),  CL Mm t M → CL Mm t N → va_P (dC, dI) vwCl (wld 69 layC cA ad M) H → va_P (dC, dI) vwCl (wld 69 layC cA bd N) H → va_S A s.heap H locs → lv_has ls 11 [(6, .int all), (3, .int y), (0, .ref (ad (0))), (1, .ref (bd (0)))] → ca ≤ 0 → sl ≤ 0 → W p l e ({ frames := 11, cells := 10, slots := 60, locals := 300 } : Room) s m args below meth c H locs ca sl Q (F0 m 240 ls []) := by
  obtain ⟨hx, hb, hml, hown, hts, hK, hKX, hNC, hfl⟩ := id C
  obtain ⟨hI0, hA0⟩ := id ha
  obtain ⟨hI1, hA1⟩ := id ha2
  intro y all hy hall M N H locs ls ca sl  hC0 hC1 hP0 hP1 hS hl hca hsl
  have hCs := hC0
  refine lv_iconst (v := 1) hx hb dL_acts_240 (by decide) ?_
  refine lv_iload_n hx hb dL_acts_241 rfl (lv_at hl 1 rfl) ?_
  refine lv_bipush (v := 7) hx hb dL_acts_242 (by decide) ?_
  refine lv_idiv hx hb dL_acts_244 (by decide) ?_
  refine lv_iload hx hb dL_acts_245 (lv_at hl 0 rfl) ?_
  refine lv_iconst (v := 2) hx hb dL_acts_247 (by decide) ?_
  refine lv_isub hx hb dL_acts_248 ?_
  refine lv_irem hx hb dL_acts_249 (ne_0 (by rw [al_2 hall]; omega)) ?_
  refine w_eqi (y := rem (y / (7 : Int32)) (all - (2 : Int32))) rfl ?_
  refine lv_iadd hx hb dL_acts_250 ?_
  obtain ⟨fi, efi, hfi⟩ := (⟨_, rfl, fi_r hy hall⟩ : ∃ z : Int32, ((1 : Int32) + (rem (y / (7 : Int32)) (all - (2 : Int32)))) = z ∧ 1 ≤ z.toInt ∧ z.toInt ≤ all.toInt - 2)
  refine w_eqi efi ?_
  refine lv_istore (lv' := [(7, .int fi), (6, .int all), (3, .int y), (0, .ref (ad (0))), (1, .ref (bd (0)))]) hx hb dL_acts_251 hl (by decide) rfl (fun ls hl => ?_)
  refine lv_iconst (v := 1) hx hb dL_acts_253 (by decide) ?_
  refine lv_iload_n hx hb dL_acts_254 rfl (lv_at hl 2 rfl) ?_
  refine lv_bipush (v := 11) hx hb dL_acts_255 (by decide) ?_
  refine lv_idiv hx hb dL_acts_257 (by decide) ?_
  refine lv_iload hx hb dL_acts_258 (lv_at hl 1 rfl) ?_
  refine lv_iload hx hb dL_acts_260 (lv_at hl 0 rfl) ?_
  refine lv_isub hx hb dL_acts_262 ?_
  refine lv_iconst (v := 1) hx hb dL_acts_263 (by decide) ?_
  refine lv_isub hx hb dL_acts_264 ?_
  refine lv_irem hx hb dL_acts_265 (ne_0 (by rw [(al_f hall hfi).2]; omega)) ?_
  refine w_eqi (y := rem (y / (11 : Int32)) ((all - fi) - (1 : Int32))) rfl ?_
  refine lv_iadd hx hb dL_acts_266 ?_
  obtain ⟨se, ese, hse⟩ := (⟨_, rfl, se_r hy hall hfi⟩ : ∃ z : Int32, ((1 : Int32) + (rem (y / (11 : Int32)) ((all - fi) - (1 : Int32)))) = z ∧ 1 ≤ z.toInt ∧ z.toInt ≤ all.toInt - fi.toInt - 1)
  refine w_eqi ese ?_
  refine lv_istore (lv' := [(8, .int se), (7, .int fi), (6, .int all), (3, .int y), (0, .ref (ad (0))), (1, .ref (bd (0)))]) hx hb dL_acts_267 hl (by decide) rfl (fun ls hl => ?_)
  refine lv_aload_n hx hb dL_acts_269 rfl (lv_at hl 4 rfl) ?_
  refine lv_iload hx hb dL_acts_270 (lv_at hl 2 rfl) ?_
  refine kWl hx hb hml hown hts hK hP0 hS hKX hNC hA0 (As := [.ref (ad (0)), .int all]) (rest := []) (c_L_passed l hfl dC dI cA ad hI0 _ all) (mkSW hts q_329 q_24 q_327 q_328 hyL_passed rfl rfl ⟨(Nat.le_of_ble_eq_true rfl), (Nat.le_of_ble_eq_true rfl)⟩) rfl hl.1 rfl (Nat.le_of_ble_eq_true rfl) dL_acts_272 ⟨by show ca + 1 ≤ 10; omega, by show sl + 6 ≤ 60; omega⟩ (fun r u H locs hw hP0 hS _ hkp => ?_)
  have hP1 := wld_kept hP1 (B := adS 69 ad) (fun k hk9 ⟨j, hj, e⟩ => hab j k hj hk9 e.symm) hkp
  obtain ⟨er, hC0⟩ := sp_passed hC0 (by omega) (by omega) hw
  refine w_eql er ?_
  refine lv_lstore (lv' := [(9, .long (f_X6_reading (f_X6_goOn Mm all))), (8, .int se), (7, .int fi), (6, .int all), (3, .int y), (0, .ref (ad (0))), (1, .ref (bd (0)))]) hx hb dL_acts_275 hl (by decide) rfl (fun ls hl => ?_)
  refine lv_aload_n hx hb dL_acts_277 rfl (lv_at hl 6 rfl) ?_
  refine lv_iload hx hb dL_acts_278 (lv_at hl 2 rfl) ?_
  refine kWl hx hb hml hown hts hK hP1 hS hKX hNC hA1 (As := [.ref (bd (0)), .int fi]) (rest := []) (c_L_passed l hfl dC dI cA bd hI1 _ fi) (mkSW hts q_329 q_24 q_327 q_328 hyL_passed rfl rfl ⟨(Nat.le_of_ble_eq_true rfl), (Nat.le_of_ble_eq_true rfl)⟩) rfl hl.1 rfl (Nat.le_of_ble_eq_true rfl) dL_acts_280 ⟨by show ca + 1 + 1 ≤ 10; omega, by show sl + 6 + 6 ≤ 60; omega⟩ (fun r u H locs hw hP1 hS _ hkp => ?_)
  have hP0 := wld_kept hP0 (B := adS 69 bd) (fun k hk9 ⟨j, hj, e⟩ => hab k j hk9 hj e) hkp
  obtain ⟨er, hC1⟩ := sp_passed hC1 (by omega) (by omega) hw
  refine w_eql er ?_
  refine lv_lload hx hb dL_acts_283 (lv_at hl 0 rfl) ?_
  refine jL_gt (tgt := 323) hx hb dL_acts_285 dL_acts_286 (by decide) (fun ck => absurd ck (ps_1 hCs hnow hall hfi)) (fun _ => ?_)
  have q1 := nw_1 (a := fi) hCs (by omega)
  have hCf := hC1
  refine lv_aload_n hx hb dL_acts_289 rfl (lv_at hl 6 rfl) ?_
  refine lv_iload hx hb dL_acts_290 (lv_at hl 1 rfl) ?_
  refine kWl hx hb hml hown hts hK hP1 hS hKX hNC hA1 (As := [.ref (bd (0)), .int se]) (rest := []) (c_L_passed l hfl dC dI cA bd hI1 _ se) (mkSW hts q_329 q_24 q_327 q_328 hyL_passed rfl rfl ⟨(Nat.le_of_ble_eq_true rfl), (Nat.le_of_ble_eq_true rfl)⟩) rfl hl.1 rfl (Nat.le_of_ble_eq_true rfl) dL_acts_292 ⟨by show ca + 1 + 1 + 1 ≤ 10; omega, by show sl + 6 + 6 + 6 ≤ 60; omega⟩ (fun r u H locs hw hP1 hS _ hkp => ?_)
  have hP0 := wld_kept hP0 (B := adS 69 bd) (fun k hk9 ⟨j, hj, e⟩ => hab k j hk9 hj e) hkp
  obtain ⟨er, hC1⟩ := sp_passed hC1 (by omega) (by omega) hw
  refine w_eql er ?_
  refine lv_lload hx hb dL_acts_295 (lv_at hl 0 rfl) ?_
  refine jL_gt (tgt := 323) hx hb dL_acts_297 dL_acts_298 (by decide) (fun ck => absurd ck (ps_2 hCs hnow hall hfi hse)) (fun _ => ?_)
  have q2 := (rd_go hC1.2.1 (p := ((all - fi) - se)) (by rw [re_e hall hfi hse]; omega)).2
  have q3 := (rd_go hCf.2.1 (p := se) (by omega)).2
  have q4 := re_e hall hfi hse
  refine lv_aload_n hx hb dL_acts_301 rfl (lv_at hl 6 rfl) ?_
  refine lv_iload hx hb dL_acts_302 (lv_at hl 3 rfl) ?_
  refine lv_iload hx hb dL_acts_304 (lv_at hl 2 rfl) ?_
  refine lv_isub hx hb dL_acts_306 ?_
  refine lv_iload hx hb dL_acts_307 (lv_at hl 1 rfl) ?_
  refine lv_isub hx hb dL_acts_309 ?_
  refine kWl hx hb hml hown hts hK hP1 hS hKX hNC hA1 (As := [.ref (bd (0)), .int ((all - fi) - se)]) (rest := []) (c_L_passed l hfl dC dI cA bd hI1 _ ((all - fi) - se)) (mkSW hts q_329 q_24 q_327 q_328 hyL_passed rfl rfl ⟨(Nat.le_of_ble_eq_true rfl), (Nat.le_of_ble_eq_true rfl)⟩) rfl hl.1 rfl (Nat.le_of_ble_eq_true rfl) dL_acts_310 ⟨by show ca + 1 + 1 + 1 + 1 ≤ 10; omega, by show sl + 6 + 6 + 6 + 6 ≤ 60; omega⟩ (fun r u H locs hw hP1 hS _ hkp => ?_)
  have hP0 := wld_kept hP0 (B := adS 69 bd) (fun k hk9 ⟨j, hj, e⟩ => hab k j hk9 hj e) hkp
  obtain ⟨er, hC1⟩ := sp_passed hC1 (by omega) (by omega) hw
  refine w_eql er ?_
  rw [go_3 hall hfi hse] at hC1
  refine lv_lload hx hb dL_acts_313 (lv_at hl 0 rfl) ?_
  refine jL_ne (tgt := 323) hx hb dL_acts_315 dL_acts_316 (by decide) (fun _ => ?_) (fun ck => absurd (congrArg f_X6_reading (go_3 hall hfi hse)) ck)
  refine lv_iconst (v := 1) hx hb dL_acts_319 (by decide) ?_
  refine lv_goto (tgt := 324) hx hb dL_acts_320 (by decide) ?_
  exact kend 324 dL_acts_324 _ _ _ _ _ _ _ (⟨_, _, hC0, hC1, good_pass hCs hC0 (by omega)⟩) hP0 hP1 hS (by omega) (by omega)
set_option maxHeartbeats 4000000 in
set_option maxRecDepth 100000 in
theorem s_acts_218 {p : Program} {l : Launch} {e : Env} {s : State} {m : MethodId} {args : Array Value} {below : List Frame} {meth : Method} {c : Code} {dC : Nat → ClassId} {dI : Nat → Nat → Nat} {cA : Nat → ClassId} {A : Nat → Prop} {ad bd : Nat → Nat} {Mm : Mem} {t : Int32} {x : Int32} (C : LK p l s m c args cL_acts 11 dC dI cA A) (ha : CA A ad) (ha2 : CA A bd) (hab : AP ad bd) (hx0 : 0 ≤ x.toInt) (hnow : nowI Mm ≤ 990000000000) {Q : State → Prop} (kend : ∀ (rpc : Nat), decode cL_acts rpc = .ok (.ireturn, 1) → ∀ (M N : Mem) (H : Heap) (locs : List Loc) (ls : Array Slot) (ca sl : Nat), (∃ (Mm' : Mem) (t' : Int32), CL Mm' t' M ∧ CL Mm' t' N ∧ GOOD Mm Mm') → va_P (dC, dI) vwCl (wld 69 layC cA ad M) H → va_P (dC, dI) vwCl (wld 69 layC cA bd N) H → va_S A s.heap H locs → ca ≤ 10 → sl ≤ 60 → W p l e ({ frames := 11, cells := 10, slots := 60, locals := 300 } : Room) s m args below meth c H locs ca sl Q (F0 m rpc ls [.int 1])) :
    ∀ (y act : Int32) (hy : 0 ≤ y.toInt) (M N : Mem) (H : Heap) (locs : List Loc) (ls : Array Slot) (ca sl : Nat),  CL Mm t M → CL Mm t N → va_P (dC, dI) vwCl (wld 69 layC cA ad M) H → va_P (dC, dI) vwCl (wld 69 layC cA bd N) H → va_S A s.heap H locs → lv_has ls 11 [(4, .int act), (3, .int y), (0, .ref (ad (0))), (1, .ref (bd (0)))] → ca ≤ 0 → sl ≤ 0 → W p l e ({ frames := 11, cells := 10, slots := 60, locals := 300 } : Room) s m args below meth c H locs ca sl Q (F0 m 218 ls []) := by
  obtain ⟨hx, hb, hml, hown, hts, hK, hKX, hNC, hfl⟩ := id C
  obtain ⟨hI0, hA0⟩ := id ha
  obtain ⟨hI1, hA1⟩ := id ha2
  intro y act hy M N H locs ls ca sl  hC0 hC1 hP0 hP1 hS hl hca hsl
  refine lv_iconst (v := 3) hx hb dL_acts_218 (by decide) ?_
  refine lv_iload hx hb dL_acts_219 (lv_at hl 0 rfl) ?_
  refine lv_bipush (v := 9) hx hb dL_acts_221 (by decide) ?_
  refine jI_ne (tgt := 233) hx hb dL_acts_223 (by decide) (fun c223 => ?_) (fun c223 => ?_)
  · refine lv_iload_n hx hb dL_acts_226 rfl (lv_at hl 1 rfl) ?_
    refine lv_ldc (v := 100000) hx hb hown (hts _ q_819) dL_acts_227 ?_
    refine lv_irem hx hb dL_acts_229 (by decide) ?_
    refine w_eqi (y := rem y (100000 : Int32)) rfl ?_
    refine lv_goto (tgt := 237) hx hb dL_acts_230 (by decide) ?_
    refine lv_iadd hx hb dL_acts_237 ?_
    obtain ⟨all, eall, hall⟩ := (⟨_, rfl, all_1 hy⟩ : ∃ z : Int32, ((3 : Int32) + (rem y (100000 : Int32))) = z ∧ 3 ≤ z.toInt ∧ z.toInt ≤ 900000002)
    refine w_eqi eall ?_
    refine lv_istore (lv' := [(6, .int all), (4, .int act), (3, .int y), (0, .ref (ad (0))), (1, .ref (bd (0)))]) hx hb dL_acts_238 hl (by decide) rfl (fun ls hl => ?_)
    exact s_acts_240 C ha ha2 hab hx0 hnow kend _ _ hy hall _ _ _ _ _ _ _  hC0 hC1 hP0 hP1 hS (lv_sub hl [0, 2, 3, 4] rfl) (by omega) (by omega)
  · refine lv_iload_n hx hb dL_acts_233 rfl (lv_at hl 1 rfl) ?_
    refine lv_ldc (v := 900000000) hx hb hown (hts _ q_820) dL_acts_234 ?_
    refine lv_irem hx hb dL_acts_236 (by decide) ?_
    refine w_eqi (y := rem y (900000000 : Int32)) rfl ?_
    refine lv_iadd hx hb dL_acts_237 ?_
    obtain ⟨all, eall, hall⟩ := (⟨_, rfl, all_2 hy⟩ : ∃ z : Int32, ((3 : Int32) + (rem y (900000000 : Int32))) = z ∧ 3 ≤ z.toInt ∧ z.toInt ≤ 900000002)
    refine w_eqi eall ?_
    refine lv_istore (lv' := [(6, .int all), (4, .int act), (3, .int y), (0, .ref (ad (0))), (1, .ref (bd (0)))]) hx hb dL_acts_238 hl (by decide) rfl (fun ls hl => ?_)
    exact s_acts_240 C ha ha2 hab hx0 hnow kend _ _ hy hall _ _ _ _ _ _ _  hC0 hC1 hP0 hP1 hS (lv_sub hl [0, 2, 3, 4] rfl) (by omega) (by omega)
set_option maxHeartbeats 4000000 in
set_option maxRecDepth 100000 in
theorem s_acts_211 {p : Program} {l : Launch} {e : Env} {s : State} {m : MethodId} {args : Array Value} {below : List Frame} {meth : Method} {c : Code} {dC : Nat → ClassId} {dI : Nat → Nat → Nat} {cA : Nat → ClassId} {A : Nat → Prop} {ad bd : Nat → Nat} {Mm : Mem} {t : Int32} {x : Int32} (C : LK p l s m c args cL_acts 11 dC dI cA A) (ha : CA A ad) (ha2 : CA A bd) (hab : AP ad bd) (hx0 : 0 ≤ x.toInt) (hnow : nowI Mm ≤ 990000000000) {Q : State → Prop} (kend : ∀ (rpc : Nat), decode cL_acts rpc = .ok (.ireturn, 1) → ∀ (M N : Mem) (H : Heap) (locs : List Loc) (ls : Array Slot) (ca sl : Nat), (∃ (Mm' : Mem) (t' : Int32), CL Mm' t' M ∧ CL Mm' t' N ∧ GOOD Mm Mm') → va_P (dC, dI) vwCl (wld 69 layC cA ad M) H → va_P (dC, dI) vwCl (wld 69 layC cA bd N) H → va_S A s.heap H locs → ca ≤ 10 → sl ≤ 60 → W p l e ({ frames := 11, cells := 10, slots := 60, locals := 300 } : Room) s m args below meth c H locs ca sl Q (F0 m rpc ls [.int 1])) :
    ∀ (y act : Int32) (hy : 0 ≤ y.toInt) (M N : Mem) (H : Heap) (locs : List Loc) (ls : Array Slot) (ca sl : Nat),  CL Mm t M → CL Mm t N → va_P (dC, dI) vwCl (wld 69 layC cA ad M) H → va_P (dC, dI) vwCl (wld 69 layC cA bd N) H → va_S A s.heap H locs → lv_has ls 11 [(4, .int act), (3, .int y), (0, .ref (ad (0))), (1, .ref (bd (0)))] → ca ≤ 0 → sl ≤ 0 → W p l e ({ frames := 11, cells := 10, slots := 60, locals := 300 } : Room) s m args below meth c H locs ca sl Q (F0 m 211 ls []) := by
  obtain ⟨hx, hb, hml, hown, hts, hK, hKX, hNC, hfl⟩ := id C
  obtain ⟨hI0, hA0⟩ := id ha
  obtain ⟨hI1, hA1⟩ := id ha2
  intro y act hy M N H locs ls ca sl  hC0 hC1 hP0 hP1 hS hl hca hsl
  refine lv_iload hx hb dL_acts_211 (lv_at hl 0 rfl) ?_
  refine lv_bipush (v := 12) hx hb dL_acts_213 (by decide) ?_
  refine jI_ge (tgt := 325) hx hb dL_acts_215 (by decide) (fun c215 => ?_) (fun c215 => ?_)
  · exact s_acts_218 C ha ha2 hab hx0 hnow kend _ _ hy _ _ _ _ _ _ _  hC0 hC1 hP0 hP1 hS (lv_sub hl [0, 1, 2, 3] rfl) (by omega) (by omega)
  · exact s_acts_325 C ha ha2 hab hx0 hnow kend _ _ _ _ _ _ _ _ _  hC0 hC1 hP0 hP1 hS (lv_sub hl [0, 1, 2, 3] rfl) (by omega) (by omega)
set_option maxHeartbeats 4000000 in
set_option maxRecDepth 100000 in
theorem s_acts_171 {p : Program} {l : Launch} {e : Env} {s : State} {m : MethodId} {args : Array Value} {below : List Frame} {meth : Method} {c : Code} {dC : Nat → ClassId} {dI : Nat → Nat → Nat} {cA : Nat → ClassId} {A : Nat → Prop} {ad bd : Nat → Nat} {Mm : Mem} {t : Int32} {x : Int32} (C : LK p l s m c args cL_acts 11 dC dI cA A) (ha : CA A ad) (ha2 : CA A bd) (hab : AP ad bd) (hx0 : 0 ≤ x.toInt) (hnow : nowI Mm ≤ 990000000000) {Q : State → Prop} (kend : ∀ (rpc : Nat), decode cL_acts rpc = .ok (.ireturn, 1) → ∀ (M N : Mem) (H : Heap) (locs : List Loc) (ls : Array Slot) (ca sl : Nat), (∃ (Mm' : Mem) (t' : Int32), CL Mm' t' M ∧ CL Mm' t' N ∧ GOOD Mm Mm') → va_P (dC, dI) vwCl (wld 69 layC cA ad M) H → va_P (dC, dI) vwCl (wld 69 layC cA bd N) H → va_S A s.heap H locs → ca ≤ 10 → sl ≤ 60 → W p l e ({ frames := 11, cells := 10, slots := 60, locals := 300 } : Room) s m args below meth c H locs ca sl Q (F0 m rpc ls [.int 1])) :
    ∀ (y z5 z6 z7 : Int32) (M N : Mem) (H : Heap) (locs : List Loc) (ls : Array Slot) (ca sl : Nat),  CL Mm t M → CL Mm t N → va_P (dC, dI) vwCl (wld 69 layC cA ad M) H → va_P (dC, dI) vwCl (wld 69 layC cA bd N) H → va_S A s.heap H locs → lv_has ls 11 [(7, .int z7), (6, .int z6), (5, .int z5), (3, .int y), (0, .ref (ad (0))), (1, .ref (bd (0)))] → ca ≤ 0 → sl ≤ 0 → W p l e ({ frames := 11, cells := 10, slots := 60, locals := 300 } : Room) s m args below meth c H locs ca sl Q (F0 m 171 ls []) := by
  obtain ⟨hx, hb, hml, hown, hts, hK, hKX, hNC, hfl⟩ := id C
  obtain ⟨hI0, hA0⟩ := id ha
  obtain ⟨hI1, hA1⟩ := id ha2
  intro y z5 z6 z7 M N H locs ls ca sl  hC0 hC1 hP0 hP1 hS hl hca hsl
  have hCs := hC0
  refine lv_aload_n hx hb dL_acts_171 rfl (lv_at hl 4 rfl) ?_
  refine lv_iload hx hb dL_acts_172 (lv_at hl 2 rfl) ?_
  refine lv_iload hx hb dL_acts_174 (lv_at hl 1 rfl) ?_
  refine lv_iload_n hx hb dL_acts_176 rfl (lv_at hl 3 rfl) ?_
  refine lv_sipush (v := 999) hx hb dL_acts_177 (by decide) ?_
  refine lv_irem hx hb dL_acts_180 (by decide) ?_
  refine w_eqi (y := rem y (999 : Int32)) rfl ?_
  refine lv_iload hx hb dL_acts_181 (lv_at hl 0 rfl) ?_
  refine kWl hx hb hml hown hts hK hP0 hS hKX hNC hA0 (As := [.ref (ad (0)), .int z5, .int z6, .int (rem y (999 : Int32)), .int z7]) (rest := []) (c_L_exchanged l hfl dC dI cA ad hI0 _ z5 z6 (rem y (999 : Int32)) z7) (mkSW hts q_464 q_24 q_462 q_463 hyL_exchanged rfl rfl ⟨(Nat.le_of_ble_eq_true rfl), (Nat.le_of_ble_eq_true rfl)⟩) rfl hl.1 rfl (Nat.le_of_ble_eq_true rfl) dL_acts_183 ⟨by show ca + 2 ≤ 10; omega, by show sl + 12 ≤ 60; omega⟩ (fun r u H locs hw hP0 hS _ hkp => ?_)
  have hP1 := wld_kept hP1 (B := adS 69 ad) (fun k hk9 ⟨j, hj, e⟩ => hab j k hj hk9 e.symm) hkp
  obtain ⟨er, hC0⟩ := sp_exchanged hC0 hw
  refine w_eql er ?_
  refine lv_aload_n hx hb dL_acts_186 rfl (lv_at hl 5 rfl) ?_
  refine lv_iload hx hb dL_acts_187 (lv_at hl 2 rfl) ?_
  refine lv_iload hx hb dL_acts_189 (lv_at hl 1 rfl) ?_
  refine lv_iload_n hx hb dL_acts_191 rfl (lv_at hl 3 rfl) ?_
  refine lv_sipush (v := 999) hx hb dL_acts_192 (by decide) ?_
  refine lv_irem hx hb dL_acts_195 (by decide) ?_
  refine w_eqi (y := rem y (999 : Int32)) rfl ?_
  refine lv_iload hx hb dL_acts_196 (lv_at hl 0 rfl) ?_
  refine kWl hx hb hml hown hts hK hP1 hS hKX hNC hA1 (As := [.ref (bd (0)), .int z5, .int z6, .int (rem y (999 : Int32)), .int z7]) (rest := [.long (ansL bkX (f_X6_exchange Mm z5 z6 (rem y (999 : Int32)) z7))]) (c_L_exchanged l hfl dC dI cA bd hI1 _ z5 z6 (rem y (999 : Int32)) z7) (mkSW hts q_464 q_24 q_462 q_463 hyL_exchanged rfl rfl ⟨(Nat.le_of_ble_eq_true rfl), (Nat.le_of_ble_eq_true rfl)⟩) rfl hl.1 rfl (Nat.le_of_ble_eq_true rfl) dL_acts_198 ⟨by show ca + 2 + 2 ≤ 10; omega, by show sl + 12 + 12 ≤ 60; omega⟩ (fun r u H locs hw hP1 hS _ hkp => ?_)
  have hP0 := wld_kept hP0 (B := adS 69 bd) (fun k hk9 ⟨j, hj, e⟩ => hab k j hk9 hj e) hkp
  obtain ⟨er, hC1⟩ := sp_exchanged hC1 hw
  refine w_eql er ?_
  refine jL_ne (tgt := 209) hx hb dL_acts_201 dL_acts_202 (by decide) (fun _ => ?_) (fun ck => absurd (rfl) ck)
  refine lv_iconst (v := 1) hx hb dL_acts_205 (by decide) ?_
  refine lv_goto (tgt := 210) hx hb dL_acts_206 (by decide) ?_
  exact kend 210 dL_acts_210 _ _ _ _ _ _ _ (⟨_, _, hC0, hC1, good_ex hCs hC0⟩) hP0 hP1 hS (by omega) (by omega)
set_option maxHeartbeats 4000000 in
set_option maxRecDepth 100000 in
theorem s_acts_150 {p : Program} {l : Launch} {e : Env} {s : State} {m : MethodId} {args : Array Value} {below : List Frame} {meth : Method} {c : Code} {dC : Nat → ClassId} {dI : Nat → Nat → Nat} {cA : Nat → ClassId} {A : Nat → Prop} {ad bd : Nat → Nat} {Mm : Mem} {t : Int32} {x : Int32} (C : LK p l s m c args cL_acts 11 dC dI cA A) (ha : CA A ad) (ha2 : CA A bd) (hab : AP ad bd) (hx0 : 0 ≤ x.toInt) (hnow : nowI Mm ≤ 990000000000) {Q : State → Prop} (kend : ∀ (rpc : Nat), decode cL_acts rpc = .ok (.ireturn, 1) → ∀ (M N : Mem) (H : Heap) (locs : List Loc) (ls : Array Slot) (ca sl : Nat), (∃ (Mm' : Mem) (t' : Int32), CL Mm' t' M ∧ CL Mm' t' N ∧ GOOD Mm Mm') → va_P (dC, dI) vwCl (wld 69 layC cA ad M) H → va_P (dC, dI) vwCl (wld 69 layC cA bd N) H → va_S A s.heap H locs → ca ≤ 10 → sl ≤ 60 → W p l e ({ frames := 11, cells := 10, slots := 60, locals := 300 } : Room) s m args below meth c H locs ca sl Q (F0 m rpc ls [.int 1])) :
    ∀ (y z5 z6 : Int32) (M N : Mem) (H : Heap) (locs : List Loc) (ls : Array Slot) (ca sl : Nat),  CL Mm t M → CL Mm t N → va_P (dC, dI) vwCl (wld 69 layC cA ad M) H → va_P (dC, dI) vwCl (wld 69 layC cA bd N) H → va_S A s.heap H locs → lv_has ls 11 [(6, .int z6), (5, .int z5), (3, .int y), (0, .ref (ad (0))), (1, .ref (bd (0)))] → ca ≤ 0 → sl ≤ 0 → W p l e ({ frames := 11, cells := 10, slots := 60, locals := 300 } : Room) s m args below meth c H locs ca sl Q (F0 m 150 ls []) := by
  obtain ⟨hx, hb, hml, hown, hts, hK, hKX, hNC, hfl⟩ := id C
  obtain ⟨hI0, hA0⟩ := id ha
  obtain ⟨hI1, hA1⟩ := id ha2
  intro y z5 z6 M N H locs ls ca sl  hC0 hC1 hP0 hP1 hS hl hca hsl
  refine lv_iload_n hx hb dL_acts_150 rfl (lv_at hl 2 rfl) ?_
  refine lv_iconst (v := 3) hx hb dL_acts_151 (by decide) ?_
  refine lv_irem hx hb dL_acts_152 (by decide) ?_
  refine w_eqi (y := rem y (3 : Int32)) rfl ?_
  refine j0_ne (tgt := 161) hx hb dL_acts_153 (by decide) (fun c153 => ?_) (fun c153 => ?_)
  · refine lv_iload hx hb dL_acts_156 (lv_at hl 0 rfl) ?_
    refine lv_goto (tgt := 169) hx hb dL_acts_158 (by decide) ?_
    obtain ⟨z7, ez7⟩ : ∃ z : Int32, z6 = z := ⟨_, rfl⟩
    refine w_eqi ez7 ?_
    refine lv_istore (lv' := [(7, .int z7), (6, .int z6), (5, .int z5), (3, .int y), (0, .ref (ad (0))), (1, .ref (bd (0)))]) hx hb dL_acts_169 hl (by decide) rfl (fun ls hl => ?_)
    exact s_acts_171 C ha ha2 hab hx0 hnow kend _ _ _ _ _ _ _ _ _ _ _  hC0 hC1 hP0 hP1 hS (lv_sub hl [0, 1, 2, 3, 4, 5] rfl) (by omega) (by omega)
  · refine lv_iload_n hx hb dL_acts_161 rfl (lv_at hl 2 rfl) ?_
    refine lv_bipush (v := 21) hx hb dL_acts_162 (by decide) ?_
    refine lv_idiv hx hb dL_acts_164 (by decide) ?_
    refine lv_sipush (v := 2500) hx hb dL_acts_165 (by decide) ?_
    refine lv_irem hx hb dL_acts_168 (by decide) ?_
    refine w_eqi (y := rem (y / (21 : Int32)) (2500 : Int32)) rfl ?_
    obtain ⟨z7, ez7⟩ : ∃ z : Int32, (rem (y / (21 : Int32)) (2500 : Int32)) = z := ⟨_, rfl⟩
    refine w_eqi ez7 ?_
    refine lv_istore (lv' := [(7, .int z7), (6, .int z6), (5, .int z5), (3, .int y), (0, .ref (ad (0))), (1, .ref (bd (0)))]) hx hb dL_acts_169 hl (by decide) rfl (fun ls hl => ?_)
    exact s_acts_171 C ha ha2 hab hx0 hnow kend _ _ _ _ _ _ _ _ _ _ _  hC0 hC1 hP0 hP1 hS (lv_sub hl [0, 1, 2, 3, 4, 5] rfl) (by omega) (by omega)
set_option maxHeartbeats 4000000 in
set_option maxRecDepth 100000 in
theorem s_acts_123 {p : Program} {l : Launch} {e : Env} {s : State} {m : MethodId} {args : Array Value} {below : List Frame} {meth : Method} {c : Code} {dC : Nat → ClassId} {dI : Nat → Nat → Nat} {cA : Nat → ClassId} {A : Nat → Prop} {ad bd : Nat → Nat} {Mm : Mem} {t : Int32} {x : Int32} (C : LK p l s m c args cL_acts 11 dC dI cA A) (ha : CA A ad) (ha2 : CA A bd) (hab : AP ad bd) (hx0 : 0 ≤ x.toInt) (hnow : nowI Mm ≤ 990000000000) {Q : State → Prop} (kend : ∀ (rpc : Nat), decode cL_acts rpc = .ok (.ireturn, 1) → ∀ (M N : Mem) (H : Heap) (locs : List Loc) (ls : Array Slot) (ca sl : Nat), (∃ (Mm' : Mem) (t' : Int32), CL Mm' t' M ∧ CL Mm' t' N ∧ GOOD Mm Mm') → va_P (dC, dI) vwCl (wld 69 layC cA ad M) H → va_P (dC, dI) vwCl (wld 69 layC cA bd N) H → va_S A s.heap H locs → ca ≤ 10 → sl ≤ 60 → W p l e ({ frames := 11, cells := 10, slots := 60, locals := 300 } : Room) s m args below meth c H locs ca sl Q (F0 m rpc ls [.int 1])) :
    ∀ (y z5 : Int32) (M N : Mem) (H : Heap) (locs : List Loc) (ls : Array Slot) (ca sl : Nat),  CL Mm t M → CL Mm t N → va_P (dC, dI) vwCl (wld 69 layC cA ad M) H → va_P (dC, dI) vwCl (wld 69 layC cA bd N) H → va_S A s.heap H locs → lv_has ls 11 [(5, .int z5), (3, .int y), (0, .ref (ad (0))), (1, .ref (bd (0)))] → ca ≤ 0 → sl ≤ 0 → W p l e ({ frames := 11, cells := 10, slots := 60, locals := 300 } : Room) s m args below meth c H locs ca sl Q (F0 m 123 ls []) := by
  obtain ⟨hx, hb, hml, hown, hts, hK, hKX, hNC, hfl⟩ := id C
  obtain ⟨hI0, hA0⟩ := id ha
  obtain ⟨hI1, hA1⟩ := id ha2
  intro y z5 M N H locs ls ca sl  hC0 hC1 hP0 hP1 hS hl hca hsl
  refine lv_iload_n hx hb dL_acts_123 rfl (lv_at hl 1 rfl) ?_
  refine lv_bipush (v := 7) hx hb dL_acts_124 (by decide) ?_
  refine lv_irem hx hb dL_acts_126 (by decide) ?_
  refine w_eqi (y := rem y (7 : Int32)) rfl ?_
  refine j0_ne (tgt := 140) hx hb dL_acts_127 (by decide) (fun c127 => ?_) (fun c127 => ?_)
  · refine lv_iload_n hx hb dL_acts_130 rfl (lv_at hl 1 rfl) ?_
    refine lv_bipush (v := 7) hx hb dL_acts_131 (by decide) ?_
    refine lv_idiv hx hb dL_acts_133 (by decide) ?_
    refine lv_ldc (v := 500001) hx hb hown (hts _ q_753) dL_acts_134 ?_
    refine lv_irem hx hb dL_acts_136 (by decide) ?_
    refine w_eqi (y := rem (y / (7 : Int32)) (500001 : Int32)) rfl ?_
    refine lv_goto (tgt := 148) hx hb dL_acts_137 (by decide) ?_
    obtain ⟨z6, ez6⟩ : ∃ z : Int32, (rem (y / (7 : Int32)) (500001 : Int32)) = z := ⟨_, rfl⟩
    refine w_eqi ez6 ?_
    refine lv_istore (lv' := [(6, .int z6), (5, .int z5), (3, .int y), (0, .ref (ad (0))), (1, .ref (bd (0)))]) hx hb dL_acts_148 hl (by decide) rfl (fun ls hl => ?_)
    exact s_acts_150 C ha ha2 hab hx0 hnow kend _ _ _ _ _ _ _ _ _ _  hC0 hC1 hP0 hP1 hS (lv_sub hl [0, 1, 2, 3, 4] rfl) (by omega) (by omega)
  · refine lv_iload_n hx hb dL_acts_140 rfl (lv_at hl 1 rfl) ?_
    refine lv_bipush (v := 7) hx hb dL_acts_141 (by decide) ?_
    refine lv_idiv hx hb dL_acts_143 (by decide) ?_
    refine lv_sipush (v := 2500) hx hb dL_acts_144 (by decide) ?_
    refine lv_irem hx hb dL_acts_147 (by decide) ?_
    refine w_eqi (y := rem (y / (7 : Int32)) (2500 : Int32)) rfl ?_
    obtain ⟨z6, ez6⟩ : ∃ z : Int32, (rem (y / (7 : Int32)) (2500 : Int32)) = z := ⟨_, rfl⟩
    refine w_eqi ez6 ?_
    refine lv_istore (lv' := [(6, .int z6), (5, .int z5), (3, .int y), (0, .ref (ad (0))), (1, .ref (bd (0)))]) hx hb dL_acts_148 hl (by decide) rfl (fun ls hl => ?_)
    exact s_acts_150 C ha ha2 hab hx0 hnow kend _ _ _ _ _ _ _ _ _ _  hC0 hC1 hP0 hP1 hS (lv_sub hl [0, 1, 2, 3, 4] rfl) (by omega) (by omega)
set_option maxHeartbeats 4000000 in
set_option maxRecDepth 100000 in
theorem s_acts_108 {p : Program} {l : Launch} {e : Env} {s : State} {m : MethodId} {args : Array Value} {below : List Frame} {meth : Method} {c : Code} {dC : Nat → ClassId} {dI : Nat → Nat → Nat} {cA : Nat → ClassId} {A : Nat → Prop} {ad bd : Nat → Nat} {Mm : Mem} {t : Int32} {x : Int32} (C : LK p l s m c args cL_acts 11 dC dI cA A) (ha : CA A ad) (ha2 : CA A bd) (hab : AP ad bd) (hx0 : 0 ≤ x.toInt) (hnow : nowI Mm ≤ 990000000000) {Q : State → Prop} (kend : ∀ (rpc : Nat), decode cL_acts rpc = .ok (.ireturn, 1) → ∀ (M N : Mem) (H : Heap) (locs : List Loc) (ls : Array Slot) (ca sl : Nat), (∃ (Mm' : Mem) (t' : Int32), CL Mm' t' M ∧ CL Mm' t' N ∧ GOOD Mm Mm') → va_P (dC, dI) vwCl (wld 69 layC cA ad M) H → va_P (dC, dI) vwCl (wld 69 layC cA bd N) H → va_S A s.heap H locs → ca ≤ 10 → sl ≤ 60 → W p l e ({ frames := 11, cells := 10, slots := 60, locals := 300 } : Room) s m args below meth c H locs ca sl Q (F0 m rpc ls [.int 1])) :
    ∀ (y act : Int32) (hy : 0 ≤ y.toInt) (hs0 : ¬ nI (sn Mm) = 0) (M N : Mem) (H : Heap) (locs : List Loc) (ls : Array Slot) (ca sl : Nat),  CL Mm t M → CL Mm t N → va_P (dC, dI) vwCl (wld 69 layC cA ad M) H → va_P (dC, dI) vwCl (wld 69 layC cA bd N) H → va_S A s.heap H locs → lv_has ls 11 [(4, .int act), (3, .int y), (0, .ref (ad (0))), (1, .ref (bd (0)))] → ca ≤ 0 → sl ≤ 0 → W p l e ({ frames := 11, cells := 10, slots := 60, locals := 300 } : Room) s m args below meth c H locs ca sl Q (F0 m 108 ls []) := by
  obtain ⟨hx, hb, hml, hown, hts, hK, hKX, hNC, hfl⟩ := id C
  obtain ⟨hI0, hA0⟩ := id ha
  obtain ⟨hI1, hA1⟩ := id ha2
  intro y act hy hs0 M N H locs ls ca sl  hC0 hC1 hP0 hP1 hS hl hca hsl
  refine lv_iload_n hx hb dL_acts_108 rfl (lv_at hl 1 rfl) ?_
  refine lv_aload_n hx hb dL_acts_109 rfl (lv_at hl 2 rfl) ?_
  refine kVi hx hb hml hown hts hK hP0 hS hA0 (As := []) (rest := [.int y]) (c_X5_servers l dC dI cA ad hI0 _ ) (mkV hts q_325 q_25 q_322 q_323 q_324 hyX5_servers rfl rfl ⟨(Nat.le_of_ble_eq_true rfl), (Nat.le_of_ble_eq_true rfl)⟩) (w_recv hK hP0 (k := 0) (by decide) lyC0 (q := (RX5, TX5, 10)) rfl) rfl hl.1 rfl (Nat.le_of_ble_eq_true rfl) dL_acts_110 ⟨by show ca ≤ 10; omega, by show sl ≤ 60; omega⟩ (fun r u H locs hw hP0 hS _ hkp => ?_)
  have hP1 := wld_kept hP1 (B := adS 69 ad) (fun k hk9 ⟨j, hj, e⟩ => hab j k hj hk9 e.symm) hkp
  obtain ⟨er, hC0⟩ := sp_servers hC0 hw
  refine w_eqi er ?_
  refine lv_irem hx hb dL_acts_113 hs0 ?_
  refine w_eqi (y := rem y (nI (sn Mm))) rfl ?_
  obtain ⟨z5, ez5⟩ : ∃ z : Int32, (rem y (nI (sn Mm))) = z := ⟨_, rfl⟩
  refine w_eqi ez5 ?_
  refine lv_istore (lv' := [(5, .int z5), (4, .int act), (3, .int y), (0, .ref (ad (0))), (1, .ref (bd (0)))]) hx hb dL_acts_114 hl (by decide) rfl (fun ls hl => ?_)
  refine lv_iload hx hb dL_acts_116 (lv_at hl 1 rfl) ?_
  refine lv_bipush (v := 9) hx hb dL_acts_118 (by decide) ?_
  refine jI_ge (tgt := 211) hx hb dL_acts_120 (by decide) (fun c120 => ?_) (fun c120 => ?_)
  · exact s_acts_123 C ha ha2 hab hx0 hnow kend _ _ _ _ _ _ _ _ _  hC0 hC1 hP0 hP1 hS (lv_sub hl [0, 2, 3, 4] rfl) (by omega) (by omega)
  · exact s_acts_211 C ha ha2 hab hx0 hnow kend _ _ hy _ _ _ _ _ _ _  hC0 hC1 hP0 hP1 hS (lv_sub hl [1, 2, 3, 4] rfl) (by omega) (by omega)
set_option maxHeartbeats 4000000 in
set_option maxRecDepth 100000 in
theorem s_acts_55 {p : Program} {l : Launch} {e : Env} {s : State} {m : MethodId} {args : Array Value} {below : List Frame} {meth : Method} {c : Code} {dC : Nat → ClassId} {dI : Nat → Nat → Nat} {cA : Nat → ClassId} {A : Nat → Prop} {ad bd : Nat → Nat} {Mm : Mem} {t : Int32} {x : Int32} (C : LK p l s m c args cL_acts 11 dC dI cA A) (ha : CA A ad) (ha2 : CA A bd) (hab : AP ad bd) (hx0 : 0 ≤ x.toInt) (hnow : nowI Mm ≤ 990000000000) {Q : State → Prop} (kend : ∀ (rpc : Nat), decode cL_acts rpc = .ok (.ireturn, 1) → ∀ (M N : Mem) (H : Heap) (locs : List Loc) (ls : Array Slot) (ca sl : Nat), (∃ (Mm' : Mem) (t' : Int32), CL Mm' t' M ∧ CL Mm' t' N ∧ GOOD Mm Mm') → va_P (dC, dI) vwCl (wld 69 layC cA ad M) H → va_P (dC, dI) vwCl (wld 69 layC cA bd N) H → va_S A s.heap H locs → ca ≤ 10 → sl ≤ 60 → W p l e ({ frames := 11, cells := 10, slots := 60, locals := 300 } : Room) s m args below meth c H locs ca sl Q (F0 m rpc ls [.int 1])) :
    ∀ (y z5 : Int32) (M N : Mem) (H : Heap) (locs : List Loc) (ls : Array Slot) (ca sl : Nat),  CL Mm t M → CL Mm t N → va_P (dC, dI) vwCl (wld 69 layC cA ad M) H → va_P (dC, dI) vwCl (wld 69 layC cA bd N) H → va_S A s.heap H locs → lv_has ls 11 [(5, .int z5), (3, .int y), (0, .ref (ad (0))), (1, .ref (bd (0)))] → ca ≤ 0 → sl ≤ 0 → W p l e ({ frames := 11, cells := 10, slots := 60, locals := 300 } : Room) s m args below meth c H locs ca sl Q (F0 m 55 ls []) := by
  obtain ⟨hx, hb, hml, hown, hts, hK, hKX, hNC, hfl⟩ := id C
  obtain ⟨hI0, hA0⟩ := id ha
  obtain ⟨hI1, hA1⟩ := id ha2
  intro y z5 M N H locs ls ca sl  hC0 hC1 hP0 hP1 hS hl hca hsl
  have hCs := hC0
  refine lv_aload_n hx hb dL_acts_55 rfl (lv_at hl 2 rfl) ?_
  refine lv_iconst (v := 1) hx hb dL_acts_56 (by decide) ?_
  refine lv_iload_n hx hb dL_acts_57 rfl (lv_at hl 1 rfl) ?_
  refine lv_bipush (v := 9) hx hb dL_acts_58 (by decide) ?_
  refine lv_irem hx hb dL_acts_60 (by decide) ?_
  refine w_eqi (y := rem y (9 : Int32)) rfl ?_
  refine lv_iadd hx hb dL_acts_61 ?_
  refine lv_iload hx hb dL_acts_62 (lv_at hl 0 rfl) ?_
  refine lv_iload_n hx hb dL_acts_64 rfl (lv_at hl 1 rfl) ?_
  refine lv_sipush (v := 300) hx hb dL_acts_65 (by decide) ?_
  refine lv_irem hx hb dL_acts_68 (by decide) ?_
  refine w_eqi (y := rem y (300 : Int32)) rfl ?_
  refine lv_iload_n hx hb dL_acts_69 rfl (lv_at hl 1 rfl) ?_
  refine lv_sipush (v := 700) hx hb dL_acts_70 (by decide) ?_
  refine lv_irem hx hb dL_acts_73 (by decide) ?_
  refine w_eqi (y := rem y (700 : Int32)) rfl ?_
  refine kWi hx hb hml hown hts hK hP0 hS hKX hNC hA0 (As := [.ref (ad (0)), .int ((1 : Int32) + (rem y (9 : Int32))), .int z5, .int (rem y (300 : Int32)), .int (rem y (700 : Int32))]) (rest := []) (c_L_added l hfl dC dI cA ad hI0 _ ((1 : Int32) + (rem y (9 : Int32))) z5 (rem y (300 : Int32)) (rem y (700 : Int32))) (mkSW hts q_401 q_24 q_399 q_400 hyL_added rfl rfl ⟨(Nat.le_of_ble_eq_true rfl), (Nat.le_of_ble_eq_true rfl)⟩) rfl hl.1 rfl (Nat.le_of_ble_eq_true rfl) dL_acts_74 ⟨by show ca + 1 ≤ 10; omega, by show sl + 6 ≤ 60; omega⟩ (fun r u H locs hw hP0 hS _ hkp => ?_)
  have hP1 := wld_kept hP1 (B := adS 69 ad) (fun k hk9 ⟨j, hj, e⟩ => hab j k hj hk9 e.symm) hkp
  obtain ⟨er, hC0⟩ := sp_added hC0 hw
  refine w_eqi er ?_
  refine lv_aload_n hx hb dL_acts_77 rfl (lv_at hl 3 rfl) ?_
  refine lv_iconst (v := 1) hx hb dL_acts_78 (by decide) ?_
  refine lv_iload_n hx hb dL_acts_79 rfl (lv_at hl 1 rfl) ?_
  refine lv_bipush (v := 9) hx hb dL_acts_80 (by decide) ?_
  refine lv_irem hx hb dL_acts_82 (by decide) ?_
  refine w_eqi (y := rem y (9 : Int32)) rfl ?_
  refine lv_iadd hx hb dL_acts_83 ?_
  refine lv_iload hx hb dL_acts_84 (lv_at hl 0 rfl) ?_
  refine lv_iload_n hx hb dL_acts_86 rfl (lv_at hl 1 rfl) ?_
  refine lv_sipush (v := 300) hx hb dL_acts_87 (by decide) ?_
  refine lv_irem hx hb dL_acts_90 (by decide) ?_
  refine w_eqi (y := rem y (300 : Int32)) rfl ?_
  refine lv_iload_n hx hb dL_acts_91 rfl (lv_at hl 1 rfl) ?_
  refine lv_sipush (v := 700) hx hb dL_acts_92 (by decide) ?_
  refine lv_irem hx hb dL_acts_95 (by decide) ?_
  refine w_eqi (y := rem y (700 : Int32)) rfl ?_
  refine kWi hx hb hml hown hts hK hP1 hS hKX hNC hA1 (As := [.ref (bd (0)), .int ((1 : Int32) + (rem y (9 : Int32))), .int z5, .int (rem y (300 : Int32)), .int (rem y (700 : Int32))]) (rest := [.int (ansI bkI (f_X6_addServer Mm ((1 : Int32) + (rem y (9 : Int32))) z5 (rem y (300 : Int32)) (rem y (700 : Int32))))]) (c_L_added l hfl dC dI cA bd hI1 _ ((1 : Int32) + (rem y (9 : Int32))) z5 (rem y (300 : Int32)) (rem y (700 : Int32))) (mkSW hts q_401 q_24 q_399 q_400 hyL_added rfl rfl ⟨(Nat.le_of_ble_eq_true rfl), (Nat.le_of_ble_eq_true rfl)⟩) rfl hl.1 rfl (Nat.le_of_ble_eq_true rfl) dL_acts_96 ⟨by show ca + 1 + 1 ≤ 10; omega, by show sl + 6 + 6 ≤ 60; omega⟩ (fun r u H locs hw hP1 hS _ hkp => ?_)
  have hP0 := wld_kept hP0 (B := adS 69 bd) (fun k hk9 ⟨j, hj, e⟩ => hab k j hk9 hj e) hkp
  obtain ⟨er, hC1⟩ := sp_added hC1 hw
  refine w_eqi er ?_
  refine jI_ne (tgt := 106) hx hb dL_acts_99 (by decide) (fun _ => ?_) (fun ck => absurd (rfl) ck)
  refine lv_iconst (v := 1) hx hb dL_acts_102 (by decide) ?_
  refine lv_goto (tgt := 107) hx hb dL_acts_103 (by decide) ?_
  exact kend 107 dL_acts_107 _ _ _ _ _ _ _ (⟨_, _, hC0, hC1, good_added hCs hC0⟩) hP0 hP1 hS (by omega) (by omega)
set_option maxHeartbeats 4000000 in
set_option maxRecDepth 100000 in
theorem s_acts_24 {p : Program} {l : Launch} {e : Env} {s : State} {m : MethodId} {args : Array Value} {below : List Frame} {meth : Method} {c : Code} {dC : Nat → ClassId} {dI : Nat → Nat → Nat} {cA : Nat → ClassId} {A : Nat → Prop} {ad bd : Nat → Nat} {Mm : Mem} {t : Int32} {x : Int32} (C : LK p l s m c args cL_acts 11 dC dI cA A) (ha : CA A ad) (ha2 : CA A bd) (hab : AP ad bd) (hx0 : 0 ≤ x.toInt) (hnow : nowI Mm ≤ 990000000000) {Q : State → Prop} (kend : ∀ (rpc : Nat), decode cL_acts rpc = .ok (.ireturn, 1) → ∀ (M N : Mem) (H : Heap) (locs : List Loc) (ls : Array Slot) (ca sl : Nat), (∃ (Mm' : Mem) (t' : Int32), CL Mm' t' M ∧ CL Mm' t' N ∧ GOOD Mm Mm') → va_P (dC, dI) vwCl (wld 69 layC cA ad M) H → va_P (dC, dI) vwCl (wld 69 layC cA bd N) H → va_S A s.heap H locs → ca ≤ 10 → sl ≤ 60 → W p l e ({ frames := 11, cells := 10, slots := 60, locals := 300 } : Room) s m args below meth c H locs ca sl Q (F0 m rpc ls [.int 1])) :
    ∀ (y : Int32) (M N : Mem) (H : Heap) (locs : List Loc) (ls : Array Slot) (ca sl : Nat),  CL Mm t M → CL Mm t N → va_P (dC, dI) vwCl (wld 69 layC cA ad M) H → va_P (dC, dI) vwCl (wld 69 layC cA bd N) H → va_S A s.heap H locs → lv_has ls 11 [(3, .int y), (0, .ref (ad (0))), (1, .ref (bd (0)))] → ca ≤ 0 → sl ≤ 0 → W p l e ({ frames := 11, cells := 10, slots := 60, locals := 300 } : Room) s m args below meth c H locs ca sl Q (F0 m 24 ls []) := by
  obtain ⟨hx, hb, hml, hown, hts, hK, hKX, hNC, hfl⟩ := id C
  obtain ⟨hI0, hA0⟩ := id ha
  obtain ⟨hI1, hA1⟩ := id ha2
  intro y M N H locs ls ca sl  hC0 hC1 hP0 hP1 hS hl hca hsl
  refine lv_iload_n hx hb dL_acts_24 rfl (lv_at hl 0 rfl) ?_
  refine lv_iconst (v := 4) hx hb dL_acts_25 (by decide) ?_
  refine lv_irem hx hb dL_acts_26 (by decide) ?_
  refine w_eqi (y := rem y (4 : Int32)) rfl ?_
  refine j0_ne (tgt := 42) hx hb dL_acts_27 (by decide) (fun c27 => ?_) (fun c27 => ?_)
  · refine lv_iload_n hx hb dL_acts_30 rfl (lv_at hl 0 rfl) ?_
    refine lv_iconst (v := 4) hx hb dL_acts_31 (by decide) ?_
    refine lv_idiv hx hb dL_acts_32 (by decide) ?_
    refine lv_ldc (v := 400001) hx hb hown (hts _ q_817) dL_acts_33 ?_
    refine lv_irem hx hb dL_acts_35 (by decide) ?_
    refine w_eqi (y := rem (y / (4 : Int32)) (400001 : Int32)) rfl ?_
    refine lv_ldc (v := 200000) hx hb hown (hts _ q_818) dL_acts_36 ?_
    refine lv_isub hx hb dL_acts_38 ?_
    refine lv_goto (tgt := 53) hx hb dL_acts_39 (by decide) ?_
    obtain ⟨z5, ez5⟩ : ∃ z : Int32, ((rem (y / (4 : Int32)) (400001 : Int32)) - (200000 : Int32)) = z := ⟨_, rfl⟩
    refine w_eqi ez5 ?_
    refine lv_istore (lv' := [(5, .int z5), (3, .int y), (0, .ref (ad (0))), (1, .ref (bd (0)))]) hx hb dL_acts_53 hl (by decide) rfl (fun ls hl => ?_)
    exact s_acts_55 C ha ha2 hab hx0 hnow kend _ _ _ _ _ _ _ _ _  hC0 hC1 hP0 hP1 hS (lv_sub hl [0, 1, 2, 3] rfl) (by omega) (by omega)
  · refine lv_iload_n hx hb dL_acts_42 rfl (lv_at hl 0 rfl) ?_
    refine lv_iconst (v := 4) hx hb dL_acts_43 (by decide) ?_
    refine lv_idiv hx hb dL_acts_44 (by decide) ?_
    refine lv_sipush (v := 4001) hx hb dL_acts_45 (by decide) ?_
    refine lv_irem hx hb dL_acts_48 (by decide) ?_
    refine w_eqi (y := rem (y / (4 : Int32)) (4001 : Int32)) rfl ?_
    refine lv_sipush (v := 2000) hx hb dL_acts_49 (by decide) ?_
    refine lv_isub hx hb dL_acts_52 ?_
    obtain ⟨z5, ez5⟩ : ∃ z : Int32, ((rem (y / (4 : Int32)) (4001 : Int32)) - (2000 : Int32)) = z := ⟨_, rfl⟩
    refine w_eqi ez5 ?_
    refine lv_istore (lv' := [(5, .int z5), (3, .int y), (0, .ref (ad (0))), (1, .ref (bd (0)))]) hx hb dL_acts_53 hl (by decide) rfl (fun ls hl => ?_)
    exact s_acts_55 C ha ha2 hab hx0 hnow kend _ _ _ _ _ _ _ _ _  hC0 hC1 hP0 hP1 hS (lv_sub hl [0, 1, 2, 3] rfl) (by omega) (by omega)
set_option maxHeartbeats 4000000 in
set_option maxRecDepth 100000 in
theorem s_acts_0 {p : Program} {l : Launch} {e : Env} {s : State} {m : MethodId} {args : Array Value} {below : List Frame} {meth : Method} {c : Code} {dC : Nat → ClassId} {dI : Nat → Nat → Nat} {cA : Nat → ClassId} {A : Nat → Prop} {ad bd : Nat → Nat} {Mm : Mem} {t : Int32} {x : Int32} (C : LK p l s m c args cL_acts 11 dC dI cA A) (ha : CA A ad) (ha2 : CA A bd) (hab : AP ad bd) (hx0 : 0 ≤ x.toInt) (hnow : nowI Mm ≤ 990000000000) {Q : State → Prop} (kend : ∀ (rpc : Nat), decode cL_acts rpc = .ok (.ireturn, 1) → ∀ (M N : Mem) (H : Heap) (locs : List Loc) (ls : Array Slot) (ca sl : Nat), (∃ (Mm' : Mem) (t' : Int32), CL Mm' t' M ∧ CL Mm' t' N ∧ GOOD Mm Mm') → va_P (dC, dI) vwCl (wld 69 layC cA ad M) H → va_P (dC, dI) vwCl (wld 69 layC cA bd N) H → va_S A s.heap H locs → ca ≤ 10 → sl ≤ 60 → W p l e ({ frames := 11, cells := 10, slots := 60, locals := 300 } : Room) s m args below meth c H locs ca sl Q (F0 m rpc ls [.int 1])) :
    ∀  (M N : Mem) (H : Heap) (locs : List Loc) (ls : Array Slot) (ca sl : Nat),  CL Mm t M → CL Mm t N → va_P (dC, dI) vwCl (wld 69 layC cA ad M) H → va_P (dC, dI) vwCl (wld 69 layC cA bd N) H → va_S A s.heap H locs → lv_has ls 11 [(0, .ref (ad (0))), (1, .ref (bd (0))), (2, .int x)] → ca ≤ 0 → sl ≤ 0 → W p l e ({ frames := 11, cells := 10, slots := 60, locals := 300 } : Room) s m args below meth c H locs ca sl Q (F0 m 0 ls []) := by
  obtain ⟨hx, hb, hml, hown, hts, hK, hKX, hNC, hfl⟩ := id C
  obtain ⟨hI0, hA0⟩ := id ha
  obtain ⟨hI1, hA1⟩ := id ha2
  intro  M N H locs ls ca sl  hC0 hC1 hP0 hP1 hS hl hca hsl
  refine lv_iload_n hx hb dL_acts_0 rfl (lv_at hl 2 rfl) ?_
  refine lv_bipush (v := 16) hx hb dL_acts_1 (by decide) ?_
  refine lv_idiv hx hb dL_acts_3 (by decide) ?_
  obtain ⟨y, ey, hy⟩ := (⟨_, rfl, div_nn hx0 (by decide)⟩ : ∃ z : Int32, (x / (16 : Int32)) = z ∧ 0 ≤ z.toInt)
  refine w_eqi ey ?_
  refine lv_istore_n (lv' := [(3, .int y), (0, .ref (ad (0))), (1, .ref (bd (0))), (2, .int x)]) hx hb dL_acts_4 rfl hl (by decide) rfl (fun ls hl => ?_)
  refine lv_iload_n hx hb dL_acts_5 rfl (lv_at hl 3 rfl) ?_
  refine lv_bipush (v := 16) hx hb dL_acts_6 (by decide) ?_
  refine lv_irem hx hb dL_acts_8 (by decide) ?_
  refine w_eqi (y := rem x (16 : Int32)) rfl ?_
  obtain ⟨act, eact⟩ : ∃ z : Int32, (rem x (16 : Int32)) = z := ⟨_, rfl⟩
  refine w_eqi eact ?_
  refine lv_istore (lv' := [(4, .int act), (3, .int y), (0, .ref (ad (0))), (1, .ref (bd (0))), (2, .int x)]) hx hb dL_acts_9 hl (by decide) rfl (fun ls hl => ?_)
  refine lv_iload hx hb dL_acts_11 (lv_at hl 0 rfl) ?_
  refine lv_iconst (v := 2) hx hb dL_acts_13 (by decide) ?_
  refine jI_lt (tgt := 24) hx hb dL_acts_14 (by decide) (fun c14 => ?_) (fun c14 => ?_)
  · exact s_acts_24 C ha ha2 hab hx0 hnow kend _ _ _ _ _ _ _ _  hC0 hC1 hP0 hP1 hS (lv_sub hl [1, 2, 3] rfl) (by omega) (by omega)
  · refine lv_aload_n hx hb dL_acts_17 rfl (lv_at hl 2 rfl) ?_
    refine kVi hx hb hml hown hts hK hP0 hS hA0 (As := []) (rest := []) (c_X5_servers l dC dI cA ad hI0 _ ) (mkV hts q_325 q_25 q_322 q_323 q_324 hyX5_servers rfl rfl ⟨(Nat.le_of_ble_eq_true rfl), (Nat.le_of_ble_eq_true rfl)⟩) (w_recv hK hP0 (k := 0) (by decide) lyC0 (q := (RX5, TX5, 10)) rfl) rfl hl.1 rfl (Nat.le_of_ble_eq_true rfl) dL_acts_18 ⟨by show ca ≤ 10; omega, by show sl ≤ 60; omega⟩ (fun r u H locs hw hP0 hS _ hkp => ?_)
    have hP1 := wld_kept hP1 (B := adS 69 ad) (fun k hk9 ⟨j, hj, e⟩ => hab j k hj hk9 e.symm) hkp
    obtain ⟨er, hC0⟩ := sp_servers hC0 hw
    refine w_eqi er ?_
    refine j0_ne (tgt := 108) hx hb dL_acts_21 (by decide) (fun c21 => ?_) (fun c21 => ?_)
    · exact s_acts_24 C ha ha2 hab hx0 hnow kend _ _ _ _ _ _ _ _  hC0 hC1 hP0 hP1 hS (lv_sub hl [1, 2, 3] rfl) (by omega) (by omega)
    · exact s_acts_108 C ha ha2 hab hx0 hnow kend _ _ hy c21 _ _ _ _ _ _ _  hC0 hC1 hP0 hP1 hS (lv_sub hl [0, 1, 2, 3] rfl) (by omega) (by omega)
theorem hyL_acts : yL_acts.cls ≠ "java/lang/invoke/MethodHandle" ∧ yL_acts.cls ≠ "java/lang/invoke/VarHandle" ∧ (parseMethodDescriptor yL_acts.desc).map (fun d => d.parameters.length) = some 3 := by decide +kernel
set_option maxHeartbeats 4000000 in
set_option maxRecDepth 100000 in
theorem c_L_acts (l : Launch) (hfl : l.stackTraces = false) (dC : Nat → ClassId) (dI : Nat → Nat → Nat) (cA : Nat → ClassId) (ad bd : Nat → Nat) (hI : Inj 69 ad) (hI2 : Inj 69 bd) (hab : AP ad bd) {M N Mm : Mem} {t : Int32} (hC : CL Mm t M) (hD : CL Mm t N) {x : Int32} (hx0 : 0 ≤ x.toInt) (hnow : nowI Mm ≤ 990000000000) : Met l yL_acts (.code yL_acts cL_acts 11 (some .boolean) :: AG) ({ frames := 11, cells := 10, slots := 60, locals := 300 } : Room) (va_Pc [.ref (ad (0)), .ref (bd (0)), .int x] (PW2 dC dI cA ad bd M N)) (va_Qi (fun r z => r = 1 ∧ ∃ (Mm' : Mem) (t' : Int32), CL Mm' t' z.1 ∧ CL Mm' t' z.2 ∧ GOOD Mm Mm') (PC2 dC dI cA ad bd) (ad2S ad bd)) 10 60 (ad2S ad bd) := by
  refine yMet2 (by decide) (Nat.le_of_ble_eq_true rfl) ?_
  intro p e s m below meth c ls hx hb hr hml hlocks hown hts hK hP hP2 hS hl hKX hNC
  exact s_acts_0 ⟨hx, hb, hml, hown, hts, hK, hKX, hNC, hfl⟩ ⟨hI, fun _ h => Or.inl h⟩ ⟨hI2, fun _ h => Or.inr h⟩ hab hx0 hnow (fun rpc hd M N H locs ls ca sl hE hP1 hP3 hS1 hca hsl => W.widen hca hsl (W.zret hx hb hr (v := 1) rfl (fun t ht hW => ⟨⟨1, (M, N), rfl, ⟨rfl, hE⟩, by rw [ht]; exact hP1, by rw [ht]; exact hP3⟩, hS1.F ht⟩) hS1.2.2 hd)) M N _ _ _ 0 0 hC hD hP hP2 hS hl (by omega) (by omega)
