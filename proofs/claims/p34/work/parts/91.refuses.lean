/-! refuses: calls that throw -/
set_option maxHeartbeats 4000000 in
set_option maxRecDepth 100000 in
theorem s_refuses_353 {p : Program} {l : Launch} {e : Env} {s : State} {m : MethodId} {args : Array Value} {below : List Frame} {meth : Method} {c : Code} {dC : Nat → ClassId} {dI : Nat → Nat → Nat} {cA : Nat → ClassId} {A : Nat → Prop} {ad : Nat → Nat} {Mm : Mem} {t : Int32} {x : Int32} (C : LK p l s m c args cL_refuses 5 dC dI cA A) (ha : CA A ad) (hx0 : 0 ≤ x.toInt ∧ x.toInt ≤ 9972) {Q : State → Prop} (kend : ∀ (rpc : Nat), decode cL_refuses rpc = .ok (.ireturn, 1) → ∀ (M : Mem) (H : Heap) (locs : List Loc) (ls : Array Slot) (ca sl : Nat), CL Mm t M → va_P (dC, dI) vwCl (wld 69 layC cA ad M) H → va_S A s.heap H locs → ca ≤ 50 → sl ≤ 300 → W p l e ({ frames := 11, cells := 50, slots := 300, locals := 300 } : Room) s m args below meth c H locs ca sl Q (F0 m rpc ls [.int 1])) :
    ∀ (no : Int32) (M : Mem) (H : Heap) (locs : List Loc) (ls : Array Slot) (ca sl : Nat),  CL Mm t M → va_P (dC, dI) vwCl (wld 69 layC cA ad M) H → va_S A s.heap H locs → lv_has ls 5 [(3, .int (1 : Int32)), (2, .int no), (0, .ref (ad (0))), (1, .int x)] → ca ≤ 29 → sl ≤ 174 → W p l e ({ frames := 11, cells := 50, slots := 300, locals := 300 } : Room) s m args below meth c H locs ca sl Q (F0 m 353 ls []) := by
  obtain ⟨hx, hb, hml, hown, hts, hK, hKX, hNC, hfl⟩ := id C
  obtain ⟨hI0, hA0⟩ := id ha
  intro no M H locs ls ca sl hC0 hP0 hS hl hca hsl
  refine lv_iload_n hx hb dL_refuses_353 rfl (lv_at hl 0 rfl) ?_
  refine j0_eq (tgt := 504) hx hb dL_refuses_354 (by decide) (fun ck => absurd ck ((by decide))) (fun _ => ?_)
  refine lv_aload_n hx hb dL_refuses_357 rfl (lv_at hl 2 rfl) ?_
  refine kVi hx hb hml hown hts hK hP0 hS hA0 (As := []) (rest := []) (c_X5_servers l dC dI cA ad hI0 _ ) (mkV hts q_325 q_25 q_322 q_323 q_324 hyX5_servers rfl rfl ⟨(Nat.le_of_ble_eq_true rfl), (Nat.le_of_ble_eq_true rfl)⟩) (w_recv hK hP0 (k := 0) (by decide) lyC0 (q := (RX5, TX5, 10)) rfl) rfl hl.1 rfl (Nat.le_of_ble_eq_true rfl) dL_refuses_358 ⟨by show ca ≤ 50; omega, by show sl ≤ 300; omega⟩ (fun r u H locs hw hP0 hS _ hkp => ?_)
  obtain ⟨er, hC0⟩ := sp_servers hC0 hw
  refine w_eqi er ?_
  refine j0_le (tgt := 504) hx hb dL_refuses_361 (by decide) (fun c361 => ?_) (fun c361 => ?_)
  · refine lv_iload_n hx hb dL_refuses_364 rfl (lv_at hl 3 rfl) ?_
    refine lv_aload_n hx hb dL_refuses_365 rfl (lv_at hl 2 rfl) ?_
    refine kVi hx hb hml hown hts hK hP0 hS hA0 (As := []) (rest := [.int x]) (c_X5_servers l dC dI cA ad hI0 _ ) (mkV hts q_325 q_25 q_322 q_323 q_324 hyX5_servers rfl rfl ⟨(Nat.le_of_ble_eq_true rfl), (Nat.le_of_ble_eq_true rfl)⟩) (w_recv hK hP0 (k := 0) (by decide) lyC0 (q := (RX5, TX5, 10)) rfl) rfl hl.1 rfl (Nat.le_of_ble_eq_true rfl) dL_refuses_366 ⟨by show ca ≤ 50; omega, by show sl ≤ 300; omega⟩ (fun r u H locs hw hP0 hS _ hkp => ?_)
    obtain ⟨er, hC0⟩ := sp_servers hC0 hw
    refine w_eqi er ?_
    refine lv_irem hx hb dL_refuses_369 (sn_ne hC0.s8 c361) ?_
    refine w_eqi (y := rem x (nI (sn Mm))) rfl ?_
    obtain ⟨j_s, ej_s, hj_s⟩ := sv_rem hx0.1 hC0.s8 c361
    refine w_eqi ej_s ?_
    refine lv_istore (lv' := [(4, .int (nI j_s)), (3, .int (1 : Int32)), (2, .int no), (0, .ref (ad (0))), (1, .int x)]) hx hb dL_refuses_370 hl (by decide) rfl (fun ls hl => ?_)
    refine lv_aload_n hx hb dL_refuses_372 rfl (lv_at hl 3 rfl) ?_
    refine lv_iload hx hb dL_refuses_373 (lv_at hl 0 rfl) ?_
    refine lv_ldc (v := 1000001) hx hb hown (hts _ q_752) dL_refuses_375 ?_
    refine kWi hx hb hml hown hts hK hP0 hS hKX hNC hA0 (As := [.ref (ad (0)), .int (nI j_s), .int (1000001 : Int32)]) (rest := []) (c_L_changed l hfl dC dI cA ad hI0 _ (nI j_s) (1000001 : Int32)) (mkSW hts q_428 q_24 q_426 q_427 hyL_changed rfl rfl ⟨(Nat.le_of_ble_eq_true rfl), (Nat.le_of_ble_eq_true rfl)⟩) rfl hl.1 rfl (Nat.le_of_ble_eq_true rfl) dL_refuses_377 ⟨by show ca + 2 ≤ 50; omega, by show sl + 12 ≤ 300; omega⟩ (fun r u H locs hw hP0 hS _ hkp => ?_)
    obtain ⟨er, hC0⟩ := sp_ch_arg hC0 hj_s (by decide) hw
    refine w_eqi er ?_
    refine lv_ldc (v := (-9999002)) hx hb hown (hts _ q_313) dL_refuses_380 ?_
    refine jI_ne (tgt := 502) hx hb dL_refuses_382 (by decide) (fun _ => ?_) (fun ck => absurd ((by decide)) ck)
    refine lv_aload_n hx hb dL_refuses_385 rfl (lv_at hl 3 rfl) ?_
    refine lv_iload hx hb dL_refuses_386 (lv_at hl 0 rfl) ?_
    refine lv_ldc (v := 500001) hx hb hown (hts _ q_753) dL_refuses_388 ?_
    refine lv_iconst (v := 0) hx hb dL_refuses_390 (by decide) ?_
    refine lv_iconst (v := 0) hx hb dL_refuses_391 (by decide) ?_
    refine kWl hx hb hml hown hts hK hP0 hS hKX hNC hA0 (As := [.ref (ad (0)), .int (nI j_s), .int (500001 : Int32), .int (0 : Int32), .int (0 : Int32)]) (rest := []) (c_L_exchanged l hfl dC dI cA ad hI0 _ (nI j_s) (500001 : Int32) (0 : Int32) (0 : Int32)) (mkSW hts q_464 q_24 q_462 q_463 hyL_exchanged rfl rfl ⟨(Nat.le_of_ble_eq_true rfl), (Nat.le_of_ble_eq_true rfl)⟩) rfl hl.1 rfl (Nat.le_of_ble_eq_true rfl) dL_refuses_392 ⟨by show ca + 2 + 2 ≤ 50; omega, by show sl + 12 + 12 ≤ 300; omega⟩ (fun r u H locs hw hP0 hS _ hkp => ?_)
    obtain ⟨er, hC0⟩ := sp_ex_arg hC0 hj_s nx_1 hw
    refine w_eql er ?_
    refine lv_ldc2 (v := (-9999002)) hx hb hown (hts _ q_370) dL_refuses_395 ?_
    refine jL_ne (tgt := 502) hx hb dL_refuses_398 dL_refuses_399 (by decide) (fun _ => ?_) (fun ck => absurd ((by decide)) ck)
    refine lv_aload_n hx hb dL_refuses_402 rfl (lv_at hl 3 rfl) ?_
    refine lv_iload hx hb dL_refuses_403 (lv_at hl 0 rfl) ?_
    refine lv_iconst (v := 0) hx hb dL_refuses_405 (by decide) ?_
    refine lv_iconst (v := (-1)) hx hb dL_refuses_406 (by decide) ?_
    refine lv_iconst (v := 0) hx hb dL_refuses_407 (by decide) ?_
    refine kWl hx hb hml hown hts hK hP0 hS hKX hNC hA0 (As := [.ref (ad (0)), .int (nI j_s), .int (0 : Int32), .int ((-1) : Int32), .int (0 : Int32)]) (rest := []) (c_L_exchanged l hfl dC dI cA ad hI0 _ (nI j_s) (0 : Int32) ((-1) : Int32) (0 : Int32)) (mkSW hts q_464 q_24 q_462 q_463 hyL_exchanged rfl rfl ⟨(Nat.le_of_ble_eq_true rfl), (Nat.le_of_ble_eq_true rfl)⟩) rfl hl.1 rfl (Nat.le_of_ble_eq_true rfl) dL_refuses_408 ⟨by show ca + 2 + 2 + 2 ≤ 50; omega, by show sl + 12 + 12 + 12 ≤ 300; omega⟩ (fun r u H locs hw hP0 hS _ hkp => ?_)
    obtain ⟨er, hC0⟩ := sp_ex_arg hC0 hj_s nx_2 hw
    refine w_eql er ?_
    refine lv_ldc2 (v := (-9999002)) hx hb hown (hts _ q_370) dL_refuses_411 ?_
    refine jL_ne (tgt := 502) hx hb dL_refuses_414 dL_refuses_415 (by decide) (fun _ => ?_) (fun ck => absurd ((by decide)) ck)
    refine lv_aload_n hx hb dL_refuses_418 rfl (lv_at hl 3 rfl) ?_
    refine lv_iload hx hb dL_refuses_419 (lv_at hl 0 rfl) ?_
    refine lv_iconst (v := 0) hx hb dL_refuses_421 (by decide) ?_
    refine lv_iconst (v := 0) hx hb dL_refuses_422 (by decide) ?_
    refine lv_ldc (v := 500001) hx hb hown (hts _ q_753) dL_refuses_423 ?_
    refine lv_iload_n hx hb dL_refuses_425 rfl (lv_at hl 4 rfl) ?_
    refine lv_iadd hx hb dL_refuses_426 ?_
    refine kWl hx hb hml hown hts hK hP0 hS hKX hNC hA0 (As := [.ref (ad (0)), .int (nI j_s), .int (0 : Int32), .int (0 : Int32), .int ((500001 : Int32) + x)]) (rest := []) (c_L_exchanged l hfl dC dI cA ad hI0 _ (nI j_s) (0 : Int32) (0 : Int32) ((500001 : Int32) + x)) (mkSW hts q_464 q_24 q_462 q_463 hyL_exchanged rfl rfl ⟨(Nat.le_of_ble_eq_true rfl), (Nat.le_of_ble_eq_true rfl)⟩) rfl hl.1 rfl (Nat.le_of_ble_eq_true rfl) dL_refuses_427 ⟨by show ca + 2 + 2 + 2 + 2 ≤ 50; omega, by show sl + 12 + 12 + 12 + 12 ≤ 300; omega⟩ (fun r u H locs hw hP0 hS _ hkp => ?_)
    obtain ⟨er, hC0⟩ := sp_ex_arg hC0 hj_s (nx_3 hx0) hw
    refine w_eql er ?_
    refine lv_ldc2 (v := (-9999002)) hx hb hown (hts _ q_370) dL_refuses_430 ?_
    refine jL_ne (tgt := 502) hx hb dL_refuses_433 dL_refuses_434 (by decide) (fun _ => ?_) (fun ck => absurd ((by decide)) ck)
    refine lv_aload_n hx hb dL_refuses_437 rfl (lv_at hl 3 rfl) ?_
    refine lv_iload hx hb dL_refuses_438 (lv_at hl 0 rfl) ?_
    refine kWi hx hb hml hown hts hK hP0 hS hKX hNC hA0 (As := [.ref (ad (0)), .int (nI j_s)]) (rest := []) (c_L_samples l hfl dC dI cA ad hI0 _ (nI j_s)) (mkSW hts q_509 q_24 q_507 q_508 hyL_samples rfl rfl ⟨(Nat.le_of_ble_eq_true rfl), (Nat.le_of_ble_eq_true rfl)⟩) rfl hl.1 rfl (Nat.le_of_ble_eq_true rfl) dL_refuses_440 ⟨by show ca + 2 + 2 + 2 + 2 + 1 ≤ 50; omega, by show sl + 12 + 12 + 12 + 12 + 6 ≤ 300; omega⟩ (fun r u H locs hw hP0 hS _ hkp => ?_)
    obtain ⟨er, hC0⟩ := sp_samples hC0 hj_s hw
    refine w_eqi er ?_
    refine j0_gt (tgt := 498) hx hb dL_refuses_443 (by decide) (fun c443 => ?_) (fun c443 => ?_)
    · refine lv_iconst (v := 1) hx hb dL_refuses_498 (by decide) ?_
      refine lv_goto (tgt := 503) hx hb dL_refuses_499 (by decide) ?_
      refine lv_istore_n (lv' := [(3, .int (1 : Int32)), (4, .int (nI j_s)), (2, .int no), (0, .ref (ad (0))), (1, .int x)]) hx hb dL_refuses_503 rfl hl (by decide) rfl (fun ls hl => ?_)
      refine lv_iload_n hx hb dL_refuses_504 rfl (lv_at hl 0 rfl) ?_
      exact kend 505 dL_refuses_505 _ _ _ _ _ _ hC0 hP0 hS (by omega) (by omega)
    · refine lv_aload_n hx hb dL_refuses_446 rfl (lv_at hl 3 rfl) ?_
      refine lv_iload hx hb dL_refuses_447 (lv_at hl 0 rfl) ?_
      refine kWl hx hb hml hown hts hK hP0 hS hKX hNC hA0 (As := [.ref (ad (0)), .int (nI j_s)]) (rest := []) (c_L_offset l hfl dC dI cA ad hI0 _ (nI j_s)) (mkSW hts q_520 q_24 q_518 q_519 hyL_offset rfl rfl ⟨(Nat.le_of_ble_eq_true rfl), (Nat.le_of_ble_eq_true rfl)⟩) rfl hl.1 rfl (Nat.le_of_ble_eq_true rfl) dL_refuses_449 ⟨by show ca + 2 + 2 + 2 + 2 + 1 + 2 ≤ 50; omega, by show sl + 12 + 12 + 12 + 12 + 6 + 12 ≤ 300; omega⟩ (fun r u H locs hw hP0 hS _ hkp => ?_)
      obtain ⟨er, hC0⟩ := sp_offset hC0 hj_s hw
      refine w_eql er ?_
      refine lv_ldc2 (v := (-9999003)) hx hb hown (hts _ q_371) dL_refuses_452 ?_
      refine jL_ne (tgt := 502) hx hb dL_refuses_455 dL_refuses_456 (by decide) (fun _ => ?_) (fun ck => absurd ((oA_0 c443 (WFk hC0.2.2.1 (Nat.lt_of_lt_of_le hj_s hC0.s8)).1).1) ck)
      refine lv_aload_n hx hb dL_refuses_459 rfl (lv_at hl 3 rfl) ?_
      refine lv_iload hx hb dL_refuses_460 (lv_at hl 0 rfl) ?_
      refine kWl hx hb hml hown hts hK hP0 hS hKX hNC hA0 (As := [.ref (ad (0)), .int (nI j_s)]) (rest := []) (c_L_delay l hfl dC dI cA ad hI0 _ (nI j_s)) (mkSW hts q_535 q_24 q_533 q_534 hyL_delay rfl rfl ⟨(Nat.le_of_ble_eq_true rfl), (Nat.le_of_ble_eq_true rfl)⟩) rfl hl.1 rfl (Nat.le_of_ble_eq_true rfl) dL_refuses_462 ⟨by show ca + 2 + 2 + 2 + 2 + 1 + 2 + 2 ≤ 50; omega, by show sl + 12 + 12 + 12 + 12 + 6 + 12 + 12 ≤ 300; omega⟩ (fun r u H locs hw hP0 hS _ hkp => ?_)
      obtain ⟨er, hC0⟩ := sp_delay hC0 hj_s hw
      refine w_eql er ?_
      refine lv_ldc2 (v := (-9999003)) hx hb hown (hts _ q_371) dL_refuses_465 ?_
      refine jL_ne (tgt := 502) hx hb dL_refuses_468 dL_refuses_469 (by decide) (fun _ => ?_) (fun ck => absurd ((oA_0 c443 (WFk hC0.2.2.1 (Nat.lt_of_lt_of_le hj_s hC0.s8)).1).2.1) ck)
      refine lv_aload_n hx hb dL_refuses_472 rfl (lv_at hl 3 rfl) ?_
      refine lv_iload hx hb dL_refuses_473 (lv_at hl 0 rfl) ?_
      refine kWl hx hb hml hown hts hK hP0 hS hKX hNC hA0 (As := [.ref (ad (0)), .int (nI j_s)]) (rest := []) (c_L_jitter l hfl dC dI cA ad hI0 _ (nI j_s)) (mkSW hts q_546 q_24 q_544 q_545 hyL_jitter rfl rfl ⟨(Nat.le_of_ble_eq_true rfl), (Nat.le_of_ble_eq_true rfl)⟩) rfl hl.1 rfl (Nat.le_of_ble_eq_true rfl) dL_refuses_475 ⟨by show ca + 2 + 2 + 2 + 2 + 1 + 2 + 2 + 2 ≤ 50; omega, by show sl + 12 + 12 + 12 + 12 + 6 + 12 + 12 + 12 ≤ 300; omega⟩ (fun r u H locs hw hP0 hS _ hkp => ?_)
      obtain ⟨er, hC0⟩ := sp_jitter hC0 hj_s hw
      refine w_eql er ?_
      refine lv_ldc2 (v := (-9999003)) hx hb hown (hts _ q_371) dL_refuses_478 ?_
      refine jL_ne (tgt := 502) hx hb dL_refuses_481 dL_refuses_482 (by decide) (fun _ => ?_) (fun ck => absurd ((oA_0 c443 (WFk hC0.2.2.1 (Nat.lt_of_lt_of_le hj_s hC0.s8)).1).2.2.1) ck)
      refine lv_aload_n hx hb dL_refuses_485 rfl (lv_at hl 3 rfl) ?_
      refine lv_iload hx hb dL_refuses_486 (lv_at hl 0 rfl) ?_
      refine kWl hx hb hml hown hts hK hP0 hS hKX hNC hA0 (As := [.ref (ad (0)), .int (nI j_s)]) (rest := []) (c_L_distance l hfl dC dI cA ad hI0 _ (nI j_s)) (mkSW hts q_560 q_24 q_558 q_559 hyL_distance rfl rfl ⟨(Nat.le_of_ble_eq_true rfl), (Nat.le_of_ble_eq_true rfl)⟩) rfl hl.1 rfl (Nat.le_of_ble_eq_true rfl) dL_refuses_488 ⟨by show ca + 2 + 2 + 2 + 2 + 1 + 2 + 2 + 2 + 2 ≤ 50; omega, by show sl + 12 + 12 + 12 + 12 + 6 + 12 + 12 + 12 + 12 ≤ 300; omega⟩ (fun r u H locs hw hP0 hS _ hkp => ?_)
      obtain ⟨er, hC0⟩ := sp_distance hC0 hj_s hw
      refine w_eql er ?_
      refine lv_ldc2 (v := (-9999003)) hx hb hown (hts _ q_371) dL_refuses_491 ?_
      refine jL_ne (tgt := 502) hx hb dL_refuses_494 dL_refuses_495 (by decide) (fun _ => ?_) (fun ck => absurd ((oA_0 c443 (WFk hC0.2.2.1 (Nat.lt_of_lt_of_le hj_s hC0.s8)).1).2.2.2) ck)
      refine lv_iconst (v := 1) hx hb dL_refuses_498 (by decide) ?_
      refine lv_goto (tgt := 503) hx hb dL_refuses_499 (by decide) ?_
      refine lv_istore_n (lv' := [(3, .int (1 : Int32)), (4, .int (nI j_s)), (2, .int no), (0, .ref (ad (0))), (1, .int x)]) hx hb dL_refuses_503 rfl hl (by decide) rfl (fun ls hl => ?_)
      refine lv_iload_n hx hb dL_refuses_504 rfl (lv_at hl 0 rfl) ?_
      exact kend 505 dL_refuses_505 _ _ _ _ _ _ hC0 hP0 hS (by omega) (by omega)
  · refine lv_iload_n hx hb dL_refuses_504 rfl (lv_at hl 0 rfl) ?_
    exact kend 505 dL_refuses_505 _ _ _ _ _ _ hC0 hP0 hS (by omega) (by omega)
set_option maxHeartbeats 4000000 in
set_option maxRecDepth 100000 in
theorem s_refuses_307 {p : Program} {l : Launch} {e : Env} {s : State} {m : MethodId} {args : Array Value} {below : List Frame} {meth : Method} {c : Code} {dC : Nat → ClassId} {dI : Nat → Nat → Nat} {cA : Nat → ClassId} {A : Nat → Prop} {ad : Nat → Nat} {Mm : Mem} {t : Int32} {x : Int32} (C : LK p l s m c args cL_refuses 5 dC dI cA A) (ha : CA A ad) (hx0 : 0 ≤ x.toInt ∧ x.toInt ≤ 9972) {Q : State → Prop} (kend : ∀ (rpc : Nat), decode cL_refuses rpc = .ok (.ireturn, 1) → ∀ (M : Mem) (H : Heap) (locs : List Loc) (ls : Array Slot) (ca sl : Nat), CL Mm t M → va_P (dC, dI) vwCl (wld 69 layC cA ad M) H → va_S A s.heap H locs → ca ≤ 50 → sl ≤ 300 → W p l e ({ frames := 11, cells := 50, slots := 300, locals := 300 } : Room) s m args below meth c H locs ca sl Q (F0 m rpc ls [.int 1])) :
    ∀ (no : Int32) (M : Mem) (H : Heap) (locs : List Loc) (ls : Array Slot) (ca sl : Nat),  CL Mm t M → va_P (dC, dI) vwCl (wld 69 layC cA ad M) H → va_S A s.heap H locs → lv_has ls 5 [(3, .int (1 : Int32)), (2, .int no), (0, .ref (ad (0))), (1, .int x)] → ca ≤ 26 → sl ≤ 156 → W p l e ({ frames := 11, cells := 50, slots := 300, locals := 300 } : Room) s m args below meth c H locs ca sl Q (F0 m 307 ls []) := by
  obtain ⟨hx, hb, hml, hown, hts, hK, hKX, hNC, hfl⟩ := id C
  obtain ⟨hI0, hA0⟩ := id ha
  intro no M H locs ls ca sl hC0 hP0 hS hl hca hsl
  refine lv_aload_n hx hb dL_refuses_307 rfl (lv_at hl 2 rfl) ?_
  refine kVi hx hb hml hown hts hK hP0 hS hA0 (As := []) (rest := []) (c_X5_agreement l dC dI cA ad hI0 _ ) (mkV hts q_713 q_25 q_710 q_711 q_712 hyX5_agreement rfl rfl ⟨(Nat.le_of_ble_eq_true rfl), (Nat.le_of_ble_eq_true rfl)⟩) (w_recv hK hP0 (k := 0) (by decide) lyC0 (q := (RX5, TX5, 10)) rfl) rfl hl.1 rfl (Nat.le_of_ble_eq_true rfl) dL_refuses_308 ⟨by show ca ≤ 50; omega, by show sl ≤ 300; omega⟩ (fun r u H locs hw hP0 hS _ hkp => ?_)
  obtain ⟨er, hC0⟩ := sp_agmt hC0 hw
  refine w_eqi er ?_
  refine j0_gt (tgt := 347) hx hb dL_refuses_311 (by decide) (fun c311 => ?_) (fun c311 => ?_)
  · refine lv_iconst (v := 1) hx hb dL_refuses_347 (by decide) ?_
    refine lv_goto (tgt := 352) hx hb dL_refuses_348 (by decide) ?_
    refine lv_istore_n (lv' := [(3, .int (1 : Int32)), (2, .int no), (0, .ref (ad (0))), (1, .int x)]) hx hb dL_refuses_352 rfl hl (by decide) rfl (fun ls hl => ?_)
    exact s_refuses_353 C ha hx0 kend _ _ _ _ _ _ _  hC0 hP0 hS (lv_sub hl [0, 1, 2, 3] rfl) (by omega) (by omega)
  · refine lv_aload_n hx hb dL_refuses_314 rfl (lv_at hl 2 rfl) ?_
    refine kWl hx hb hml hown hts hK hP0 hS hKX hNC hA0 (As := [.ref (ad (0))]) (rest := []) (c_L_low l hfl dC dI cA ad hI0 _ ) (mkSW hts q_717 q_24 q_715 q_716 hyL_low rfl rfl ⟨(Nat.le_of_ble_eq_true rfl), (Nat.le_of_ble_eq_true rfl)⟩) rfl hl.1 rfl (Nat.le_of_ble_eq_true rfl) dL_refuses_315 ⟨by show ca + 1 ≤ 50; omega, by show sl + 6 ≤ 300; omega⟩ (fun r u H locs hw hP0 hS _ hkp => ?_)
    obtain ⟨er, hC0⟩ := sp_low hC0 hw
    refine w_eql er ?_
    refine lv_ldc2 (v := (-9999003)) hx hb hown (hts _ q_371) dL_refuses_318 ?_
    refine jL_ne (tgt := 351) hx hb dL_refuses_321 dL_refuses_322 (by decide) (fun _ => ?_) (fun ck => absurd ((lo_0 c311 hC0).1) ck)
    refine lv_aload_n hx hb dL_refuses_325 rfl (lv_at hl 2 rfl) ?_
    refine kWl hx hb hml hown hts hK hP0 hS hKX hNC hA0 (As := [.ref (ad (0))]) (rest := []) (c_L_high l hfl dC dI cA ad hI0 _ ) (mkSW hts q_736 q_24 q_734 q_735 hyL_high rfl rfl ⟨(Nat.le_of_ble_eq_true rfl), (Nat.le_of_ble_eq_true rfl)⟩) rfl hl.1 rfl (Nat.le_of_ble_eq_true rfl) dL_refuses_326 ⟨by show ca + 1 + 1 ≤ 50; omega, by show sl + 6 + 6 ≤ 300; omega⟩ (fun r u H locs hw hP0 hS _ hkp => ?_)
    obtain ⟨er, hC0⟩ := sp_high hC0 hw
    refine w_eql er ?_
    refine lv_ldc2 (v := (-9999003)) hx hb hown (hts _ q_371) dL_refuses_329 ?_
    refine jL_ne (tgt := 351) hx hb dL_refuses_332 dL_refuses_333 (by decide) (fun _ => ?_) (fun ck => absurd ((lo_0 c311 hC0).2.1) ck)
    refine lv_aload_n hx hb dL_refuses_336 rfl (lv_at hl 2 rfl) ?_
    refine kWl hx hb hml hown hts hK hP0 hS hKX hNC hA0 (As := [.ref (ad (0))]) (rest := []) (c_L_combined l hfl dC dI cA ad hI0 _ ) (mkSW hts q_747 q_24 q_745 q_746 hyL_combined rfl rfl ⟨(Nat.le_of_ble_eq_true rfl), (Nat.le_of_ble_eq_true rfl)⟩) rfl hl.1 rfl (Nat.le_of_ble_eq_true rfl) dL_refuses_337 ⟨by show ca + 1 + 1 + 1 ≤ 50; omega, by show sl + 6 + 6 + 6 ≤ 300; omega⟩ (fun r u H locs hw hP0 hS _ hkp => ?_)
    obtain ⟨er, hC0⟩ := sp_comb hC0 hw
    refine w_eql er ?_
    refine lv_ldc2 (v := (-9999003)) hx hb hown (hts _ q_371) dL_refuses_340 ?_
    refine jL_ne (tgt := 351) hx hb dL_refuses_343 dL_refuses_344 (by decide) (fun _ => ?_) (fun ck => absurd ((lo_0 c311 hC0).2.2) ck)
    refine lv_iconst (v := 1) hx hb dL_refuses_347 (by decide) ?_
    refine lv_goto (tgt := 352) hx hb dL_refuses_348 (by decide) ?_
    refine lv_istore_n (lv' := [(3, .int (1 : Int32)), (2, .int no), (0, .ref (ad (0))), (1, .int x)]) hx hb dL_refuses_352 rfl hl (by decide) rfl (fun ls hl => ?_)
    exact s_refuses_353 C ha hx0 kend _ _ _ _ _ _ _  hC0 hP0 hS (lv_sub hl [0, 1, 2, 3] rfl) (by omega) (by omega)
set_option maxHeartbeats 4000000 in
set_option maxRecDepth 100000 in
theorem s_refuses_202 {p : Program} {l : Launch} {e : Env} {s : State} {m : MethodId} {args : Array Value} {below : List Frame} {meth : Method} {c : Code} {dC : Nat → ClassId} {dI : Nat → Nat → Nat} {cA : Nat → ClassId} {A : Nat → Prop} {ad : Nat → Nat} {Mm : Mem} {t : Int32} {x : Int32} (C : LK p l s m c args cL_refuses 5 dC dI cA A) (ha : CA A ad) (hx0 : 0 ≤ x.toInt ∧ x.toInt ≤ 9972) {Q : State → Prop} (kend : ∀ (rpc : Nat), decode cL_refuses rpc = .ok (.ireturn, 1) → ∀ (M : Mem) (H : Heap) (locs : List Loc) (ls : Array Slot) (ca sl : Nat), CL Mm t M → va_P (dC, dI) vwCl (wld 69 layC cA ad M) H → va_S A s.heap H locs → ca ≤ 50 → sl ≤ 300 → W p l e ({ frames := 11, cells := 50, slots := 300, locals := 300 } : Room) s m args below meth c H locs ca sl Q (F0 m rpc ls [.int 1])) :
    ∀ (no : Int32) (hno : noS Mm no) (M : Mem) (H : Heap) (locs : List Loc) (ls : Array Slot) (ca sl : Nat),  CL Mm t M → va_P (dC, dI) vwCl (wld 69 layC cA ad M) H → va_S A s.heap H locs → lv_has ls 5 [(3, .int (1 : Int32)), (2, .int no), (0, .ref (ad (0))), (1, .int x)] → ca ≤ 12 → sl ≤ 72 → W p l e ({ frames := 11, cells := 50, slots := 300, locals := 300 } : Room) s m args below meth c H locs ca sl Q (F0 m 202 ls []) := by
  obtain ⟨hx, hb, hml, hown, hts, hK, hKX, hNC, hfl⟩ := id C
  obtain ⟨hI0, hA0⟩ := id ha
  intro no hno M H locs ls ca sl hC0 hP0 hS hl hca hsl
  refine lv_iload_n hx hb dL_refuses_202 rfl (lv_at hl 0 rfl) ?_
  refine j0_eq (tgt := 351) hx hb dL_refuses_203 (by decide) (fun ck => absurd ck ((by decide))) (fun _ => ?_)
  refine lv_aload_n hx hb dL_refuses_206 rfl (lv_at hl 2 rfl) ?_
  refine lv_iload_n hx hb dL_refuses_207 rfl (lv_at hl 1 rfl) ?_
  refine lv_ldc (v := 2000000) hx hb hown (hts _ q_425) dL_refuses_208 ?_
  refine kWi hx hb hml hown hts hK hP0 hS hKX hNC hA0 (As := [.ref (ad (0)), .int no, .int (2000000 : Int32)]) (rest := []) (c_L_changed l hfl dC dI cA ad hI0 _ no (2000000 : Int32)) (mkSW hts q_428 q_24 q_426 q_427 hyL_changed rfl rfl ⟨(Nat.le_of_ble_eq_true rfl), (Nat.le_of_ble_eq_true rfl)⟩) rfl hl.1 rfl (Nat.le_of_ble_eq_true rfl) dL_refuses_210 ⟨by show ca + 2 ≤ 50; omega, by show sl + 12 ≤ 300; omega⟩ (fun r u H locs hw hP0 hS _ hkp => ?_)
  obtain ⟨er, hC0⟩ := sp_ch_no hC0 hno hw
  refine w_eqi er ?_
  refine lv_ldc (v := (-9999001)) hx hb hown (hts _ q_461) dL_refuses_213 ?_
  refine jI_ne (tgt := 351) hx hb dL_refuses_215 (by decide) (fun _ => ?_) (fun ck => absurd ((by decide)) ck)
  refine lv_aload_n hx hb dL_refuses_218 rfl (lv_at hl 2 rfl) ?_
  refine lv_iload_n hx hb dL_refuses_219 rfl (lv_at hl 1 rfl) ?_
  refine lv_iconst (v := (-1)) hx hb dL_refuses_220 (by decide) ?_
  refine lv_iconst (v := 0) hx hb dL_refuses_221 (by decide) ?_
  refine lv_iconst (v := 0) hx hb dL_refuses_222 (by decide) ?_
  refine kWl hx hb hml hown hts hK hP0 hS hKX hNC hA0 (As := [.ref (ad (0)), .int no, .int ((-1) : Int32), .int (0 : Int32), .int (0 : Int32)]) (rest := []) (c_L_exchanged l hfl dC dI cA ad hI0 _ no ((-1) : Int32) (0 : Int32) (0 : Int32)) (mkSW hts q_464 q_24 q_462 q_463 hyL_exchanged rfl rfl ⟨(Nat.le_of_ble_eq_true rfl), (Nat.le_of_ble_eq_true rfl)⟩) rfl hl.1 rfl (Nat.le_of_ble_eq_true rfl) dL_refuses_223 ⟨by show ca + 2 + 2 ≤ 50; omega, by show sl + 12 + 12 ≤ 300; omega⟩ (fun r u H locs hw hP0 hS _ hkp => ?_)
  obtain ⟨er, hC0⟩ := sp_ex_no hC0 hno hw
  refine w_eql er ?_
  refine lv_ldc2 (v := (-9999001)) hx hb hown (hts _ q_506) dL_refuses_226 ?_
  refine jL_ne (tgt := 351) hx hb dL_refuses_229 dL_refuses_230 (by decide) (fun _ => ?_) (fun ck => absurd ((by decide)) ck)
  refine lv_aload_n hx hb dL_refuses_233 rfl (lv_at hl 2 rfl) ?_
  refine lv_iload_n hx hb dL_refuses_234 rfl (lv_at hl 1 rfl) ?_
  refine kWi hx hb hml hown hts hK hP0 hS hKX hNC hA0 (As := [.ref (ad (0)), .int no]) (rest := []) (c_L_samples l hfl dC dI cA ad hI0 _ no) (mkSW hts q_509 q_24 q_507 q_508 hyL_samples rfl rfl ⟨(Nat.le_of_ble_eq_true rfl), (Nat.le_of_ble_eq_true rfl)⟩) rfl hl.1 rfl (Nat.le_of_ble_eq_true rfl) dL_refuses_235 ⟨by show ca + 2 + 2 + 1 ≤ 50; omega, by show sl + 12 + 12 + 6 ≤ 300; omega⟩ (fun r u H locs hw hP0 hS _ hkp => ?_)
  obtain ⟨er, hC0⟩ := sp_sa_no hC0 hno hw
  refine w_eqi er ?_
  refine lv_ldc (v := (-9999001)) hx hb hown (hts _ q_461) dL_refuses_238 ?_
  refine jI_ne (tgt := 351) hx hb dL_refuses_240 (by decide) (fun _ => ?_) (fun ck => absurd ((by decide)) ck)
  refine lv_aload_n hx hb dL_refuses_243 rfl (lv_at hl 2 rfl) ?_
  refine lv_iload_n hx hb dL_refuses_244 rfl (lv_at hl 1 rfl) ?_
  refine kWl hx hb hml hown hts hK hP0 hS hKX hNC hA0 (As := [.ref (ad (0)), .int no]) (rest := []) (c_L_offset l hfl dC dI cA ad hI0 _ no) (mkSW hts q_520 q_24 q_518 q_519 hyL_offset rfl rfl ⟨(Nat.le_of_ble_eq_true rfl), (Nat.le_of_ble_eq_true rfl)⟩) rfl hl.1 rfl (Nat.le_of_ble_eq_true rfl) dL_refuses_245 ⟨by show ca + 2 + 2 + 1 + 2 ≤ 50; omega, by show sl + 12 + 12 + 6 + 12 ≤ 300; omega⟩ (fun r u H locs hw hP0 hS _ hkp => ?_)
  obtain ⟨er, hC0⟩ := sp_of_no hC0 hno hw
  refine w_eql er ?_
  refine lv_ldc2 (v := (-9999001)) hx hb hown (hts _ q_506) dL_refuses_248 ?_
  refine jL_ne (tgt := 351) hx hb dL_refuses_251 dL_refuses_252 (by decide) (fun _ => ?_) (fun ck => absurd ((by decide)) ck)
  refine lv_aload_n hx hb dL_refuses_255 rfl (lv_at hl 2 rfl) ?_
  refine lv_iload_n hx hb dL_refuses_256 rfl (lv_at hl 1 rfl) ?_
  refine kWl hx hb hml hown hts hK hP0 hS hKX hNC hA0 (As := [.ref (ad (0)), .int no]) (rest := []) (c_L_delay l hfl dC dI cA ad hI0 _ no) (mkSW hts q_535 q_24 q_533 q_534 hyL_delay rfl rfl ⟨(Nat.le_of_ble_eq_true rfl), (Nat.le_of_ble_eq_true rfl)⟩) rfl hl.1 rfl (Nat.le_of_ble_eq_true rfl) dL_refuses_257 ⟨by show ca + 2 + 2 + 1 + 2 + 2 ≤ 50; omega, by show sl + 12 + 12 + 6 + 12 + 12 ≤ 300; omega⟩ (fun r u H locs hw hP0 hS _ hkp => ?_)
  obtain ⟨er, hC0⟩ := sp_de_no hC0 hno hw
  refine w_eql er ?_
  refine lv_ldc2 (v := (-9999001)) hx hb hown (hts _ q_506) dL_refuses_260 ?_
  refine jL_ne (tgt := 351) hx hb dL_refuses_263 dL_refuses_264 (by decide) (fun _ => ?_) (fun ck => absurd ((by decide)) ck)
  refine lv_aload_n hx hb dL_refuses_267 rfl (lv_at hl 2 rfl) ?_
  refine lv_iload_n hx hb dL_refuses_268 rfl (lv_at hl 1 rfl) ?_
  refine kWl hx hb hml hown hts hK hP0 hS hKX hNC hA0 (As := [.ref (ad (0)), .int no]) (rest := []) (c_L_jitter l hfl dC dI cA ad hI0 _ no) (mkSW hts q_546 q_24 q_544 q_545 hyL_jitter rfl rfl ⟨(Nat.le_of_ble_eq_true rfl), (Nat.le_of_ble_eq_true rfl)⟩) rfl hl.1 rfl (Nat.le_of_ble_eq_true rfl) dL_refuses_269 ⟨by show ca + 2 + 2 + 1 + 2 + 2 + 2 ≤ 50; omega, by show sl + 12 + 12 + 6 + 12 + 12 + 12 ≤ 300; omega⟩ (fun r u H locs hw hP0 hS _ hkp => ?_)
  obtain ⟨er, hC0⟩ := sp_ji_no hC0 hno hw
  refine w_eql er ?_
  refine lv_ldc2 (v := (-9999001)) hx hb hown (hts _ q_506) dL_refuses_272 ?_
  refine jL_ne (tgt := 351) hx hb dL_refuses_275 dL_refuses_276 (by decide) (fun _ => ?_) (fun ck => absurd ((by decide)) ck)
  refine lv_aload_n hx hb dL_refuses_279 rfl (lv_at hl 2 rfl) ?_
  refine lv_iload_n hx hb dL_refuses_280 rfl (lv_at hl 1 rfl) ?_
  refine kWl hx hb hml hown hts hK hP0 hS hKX hNC hA0 (As := [.ref (ad (0)), .int no]) (rest := []) (c_L_distance l hfl dC dI cA ad hI0 _ no) (mkSW hts q_560 q_24 q_558 q_559 hyL_distance rfl rfl ⟨(Nat.le_of_ble_eq_true rfl), (Nat.le_of_ble_eq_true rfl)⟩) rfl hl.1 rfl (Nat.le_of_ble_eq_true rfl) dL_refuses_281 ⟨by show ca + 2 + 2 + 1 + 2 + 2 + 2 + 2 ≤ 50; omega, by show sl + 12 + 12 + 6 + 12 + 12 + 12 + 12 ≤ 300; omega⟩ (fun r u H locs hw hP0 hS _ hkp => ?_)
  obtain ⟨er, hC0⟩ := sp_di_no hC0 hno hw
  refine w_eql er ?_
  refine lv_ldc2 (v := (-9999001)) hx hb hown (hts _ q_506) dL_refuses_284 ?_
  refine jL_ne (tgt := 351) hx hb dL_refuses_287 dL_refuses_288 (by decide) (fun _ => ?_) (fun ck => absurd ((by decide)) ck)
  refine lv_aload_n hx hb dL_refuses_291 rfl (lv_at hl 2 rfl) ?_
  refine kVi hx hb hml hown hts hK hP0 hS hA0 (As := []) (rest := []) (c_X5_hasMajority l dC dI cA ad hI0 _ ) (mkV hts q_578 q_25 q_575 q_576 q_577 hyX5_hasMajority rfl rfl ⟨(Nat.le_of_ble_eq_true rfl), (Nat.le_of_ble_eq_true rfl)⟩) (w_recv hK hP0 (k := 0) (by decide) lyC0 (q := (RX5, TX5, 10)) rfl) rfl hl.1 rfl (Nat.le_of_ble_eq_true rfl) dL_refuses_292 ⟨by show ca + 2 + 2 + 1 + 2 + 2 + 2 + 2 ≤ 50; omega, by show sl + 12 + 12 + 6 + 12 + 12 + 12 + 12 ≤ 300; omega⟩ (fun r u H locs hw hP0 hS _ hkp => ?_)
  obtain ⟨er, hC0⟩ := sp_maj hC0 hw
  refine w_eqi er ?_
  refine j0_ne (tgt := 307) hx hb dL_refuses_295 (by decide) (fun c295 => ?_) (fun c295 => ?_)
  · refine lv_aload_n hx hb dL_refuses_298 rfl (lv_at hl 2 rfl) ?_
    refine kWi hx hb hml hown hts hK hP0 hS hKX hNC hA0 (As := [.ref (ad (0))]) (rest := []) (c_L_synchronizes l hfl dC dI cA ad hI0 _ ) (mkSW hts q_652 q_24 q_650 q_651 hyL_synchronizes rfl rfl ⟨(Nat.le_of_ble_eq_true rfl), (Nat.le_of_ble_eq_true rfl)⟩) rfl hl.1 rfl (Nat.le_of_ble_eq_true rfl) dL_refuses_299 ⟨by show ca + 2 + 2 + 1 + 2 + 2 + 2 + 2 + 1 ≤ 50; omega, by show sl + 12 + 12 + 6 + 12 + 12 + 12 + 12 + 6 ≤ 300; omega⟩ (fun r u H locs hw hP0 hS _ hkp => ?_)
    obtain ⟨er, hC0⟩ := sp_sync_no hC0 c295 hw
    refine w_eqi er ?_
    refine lv_ldc (v := (-9999003)) hx hb hown (hts _ q_423) dL_refuses_302 ?_
    refine jI_ne (tgt := 351) hx hb dL_refuses_304 (by decide) (fun _ => ?_) (fun ck => absurd ((by decide)) ck)
    exact s_refuses_307 C ha hx0 kend _ _ _ _ _ _ _  hC0 hP0 hS (lv_sub hl [0, 1, 2, 3] rfl) (by omega) (by omega)
  · exact s_refuses_307 C ha hx0 kend _ _ _ _ _ _ _  hC0 hP0 hS (lv_sub hl [0, 1, 2, 3] rfl) (by omega) (by omega)
set_option maxHeartbeats 4000000 in
set_option maxRecDepth 100000 in
theorem s_refuses_25 {p : Program} {l : Launch} {e : Env} {s : State} {m : MethodId} {args : Array Value} {below : List Frame} {meth : Method} {c : Code} {dC : Nat → ClassId} {dI : Nat → Nat → Nat} {cA : Nat → ClassId} {A : Nat → Prop} {ad : Nat → Nat} {Mm : Mem} {t : Int32} {x : Int32} (C : LK p l s m c args cL_refuses 5 dC dI cA A) (ha : CA A ad) (hx0 : 0 ≤ x.toInt ∧ x.toInt ≤ 9972) {Q : State → Prop} (kend : ∀ (rpc : Nat), decode cL_refuses rpc = .ok (.ireturn, 1) → ∀ (M : Mem) (H : Heap) (locs : List Loc) (ls : Array Slot) (ca sl : Nat), CL Mm t M → va_P (dC, dI) vwCl (wld 69 layC cA ad M) H → va_S A s.heap H locs → ca ≤ 50 → sl ≤ 300 → W p l e ({ frames := 11, cells := 50, slots := 300, locals := 300 } : Room) s m args below meth c H locs ca sl Q (F0 m rpc ls [.int 1])) :
    ∀ (no : Int32) (hno : noS Mm no) (M : Mem) (H : Heap) (locs : List Loc) (ls : Array Slot) (ca sl : Nat),  CL Mm t M → va_P (dC, dI) vwCl (wld 69 layC cA ad M) H → va_S A s.heap H locs → lv_has ls 5 [(2, .int no), (0, .ref (ad (0))), (1, .int x)] → ca ≤ 0 → sl ≤ 0 → W p l e ({ frames := 11, cells := 50, slots := 300, locals := 300 } : Room) s m args below meth c H locs ca sl Q (F0 m 25 ls []) := by
  obtain ⟨hx, hb, hml, hown, hts, hK, hKX, hNC, hfl⟩ := id C
  obtain ⟨hI0, hA0⟩ := id ha
  intro no hno M H locs ls ca sl hC0 hP0 hS hl hca hsl
  refine lv_aload_n hx hb dL_refuses_25 rfl (lv_at hl 1 rfl) ?_
  refine lv_ldc (v := 1000000001) hx hb hown (hts _ q_326) dL_refuses_26 ?_
  refine lv_iload_n hx hb dL_refuses_28 rfl (lv_at hl 2 rfl) ?_
  refine lv_iadd hx hb dL_refuses_29 ?_
  refine kWi hx hb hml hown hts hK hP0 hS hKX hNC hA0 (As := [.ref (ad (0)), .int ((1000000001 : Int32) + x)]) (rest := []) (c_L_started l hfl dC dI cA ad hI0 _ ((1000000001 : Int32) + x)) (mkSW hts q_239 q_24 q_237 q_238 hyL_started rfl rfl ⟨(Nat.le_of_ble_eq_true rfl), (Nat.le_of_ble_eq_true rfl)⟩) rfl hl.1 rfl (Nat.le_of_ble_eq_true rfl) dL_refuses_30 ⟨by show ca + 1 ≤ 50; omega, by show sl + 6 ≤ 300; omega⟩ (fun r u H locs hw hP0 hS _ hkp => ?_)
  obtain ⟨er, hC0⟩ := sp_start_no hC0 (nb_1 hx0) hw
  refine w_eqi er ?_
  refine lv_ldc (v := (-9999002)) hx hb hown (hts _ q_313) dL_refuses_33 ?_
  refine jI_ne (tgt := 200) hx hb dL_refuses_35 (by decide) (fun _ => ?_) (fun ck => absurd ((by decide)) ck)
  refine lv_aload_n hx hb dL_refuses_38 rfl (lv_at hl 1 rfl) ?_
  refine lv_iconst (v := 0) hx hb dL_refuses_39 (by decide) ?_
  refine kWl hx hb hml hown hts hK hP0 hS hKX hNC hA0 (As := [.ref (ad (0)), .int (0 : Int32)]) (rest := []) (c_L_passed l hfl dC dI cA ad hI0 _ (0 : Int32)) (mkSW hts q_329 q_24 q_327 q_328 hyL_passed rfl rfl ⟨(Nat.le_of_ble_eq_true rfl), (Nat.le_of_ble_eq_true rfl)⟩) rfl hl.1 rfl (Nat.le_of_ble_eq_true rfl) dL_refuses_40 ⟨by show ca + 1 + 1 ≤ 50; omega, by show sl + 6 + 6 ≤ 300; omega⟩ (fun r u H locs hw hP0 hS _ hkp => ?_)
  obtain ⟨er, hC0⟩ := sp_pass_no hC0 (by decide) hw
  refine w_eql er ?_
  refine lv_ldc2 (v := (-9999002)) hx hb hown (hts _ q_370) dL_refuses_43 ?_
  refine jL_ne (tgt := 200) hx hb dL_refuses_46 dL_refuses_47 (by decide) (fun _ => ?_) (fun ck => absurd ((by decide)) ck)
  refine lv_aload_n hx hb dL_refuses_50 rfl (lv_at hl 1 rfl) ?_
  refine lv_iconst (v := (-1)) hx hb dL_refuses_51 (by decide) ?_
  refine lv_iload_n hx hb dL_refuses_52 rfl (lv_at hl 2 rfl) ?_
  refine lv_isub hx hb dL_refuses_53 ?_
  refine kWl hx hb hml hown hts hK hP0 hS hKX hNC hA0 (As := [.ref (ad (0)), .int (((-1) : Int32) - x)]) (rest := []) (c_L_passed l hfl dC dI cA ad hI0 _ (((-1) : Int32) - x)) (mkSW hts q_329 q_24 q_327 q_328 hyL_passed rfl rfl ⟨(Nat.le_of_ble_eq_true rfl), (Nat.le_of_ble_eq_true rfl)⟩) rfl hl.1 rfl (Nat.le_of_ble_eq_true rfl) dL_refuses_54 ⟨by show ca + 1 + 1 + 1 ≤ 50; omega, by show sl + 6 + 6 + 6 ≤ 300; omega⟩ (fun r u H locs hw hP0 hS _ hkp => ?_)
  obtain ⟨er, hC0⟩ := sp_pass_no hC0 (nb_3 hx0) hw
  refine w_eql er ?_
  refine lv_ldc2 (v := (-9999002)) hx hb hown (hts _ q_370) dL_refuses_57 ?_
  refine jL_ne (tgt := 200) hx hb dL_refuses_60 dL_refuses_61 (by decide) (fun _ => ?_) (fun ck => absurd ((by decide)) ck)
  refine lv_aload_n hx hb dL_refuses_64 rfl (lv_at hl 1 rfl) ?_
  refine lv_ldc (v := 1000000001) hx hb hown (hts _ q_326) dL_refuses_65 ?_
  refine lv_iload_n hx hb dL_refuses_67 rfl (lv_at hl 2 rfl) ?_
  refine lv_iadd hx hb dL_refuses_68 ?_
  refine kWl hx hb hml hown hts hK hP0 hS hKX hNC hA0 (As := [.ref (ad (0)), .int ((1000000001 : Int32) + x)]) (rest := []) (c_L_passed l hfl dC dI cA ad hI0 _ ((1000000001 : Int32) + x)) (mkSW hts q_329 q_24 q_327 q_328 hyL_passed rfl rfl ⟨(Nat.le_of_ble_eq_true rfl), (Nat.le_of_ble_eq_true rfl)⟩) rfl hl.1 rfl (Nat.le_of_ble_eq_true rfl) dL_refuses_69 ⟨by show ca + 1 + 1 + 1 + 1 ≤ 50; omega, by show sl + 6 + 6 + 6 + 6 ≤ 300; omega⟩ (fun r u H locs hw hP0 hS _ hkp => ?_)
  obtain ⟨er, hC0⟩ := sp_pass_no hC0 (nb_4 hx0) hw
  refine w_eql er ?_
  refine lv_ldc2 (v := (-9999002)) hx hb hown (hts _ q_370) dL_refuses_72 ?_
  refine jL_ne (tgt := 200) hx hb dL_refuses_75 dL_refuses_76 (by decide) (fun _ => ?_) (fun ck => absurd ((by decide)) ck)
  refine lv_aload_n hx hb dL_refuses_79 rfl (lv_at hl 1 rfl) ?_
  refine lv_sipush (v := 301) hx hb dL_refuses_80 (by decide) ?_
  refine lv_iload_n hx hb dL_refuses_83 rfl (lv_at hl 2 rfl) ?_
  refine lv_iadd hx hb dL_refuses_84 ?_
  refine kWi hx hb hml hown hts hK hP0 hS hKX hNC hA0 (As := [.ref (ad (0)), .int ((301 : Int32) + x)]) (rest := []) (c_L_drifts l hfl dC dI cA ad hI0 _ ((301 : Int32) + x)) (mkSW hts q_374 q_24 q_372 q_373 hyL_drifts rfl rfl ⟨(Nat.le_of_ble_eq_true rfl), (Nat.le_of_ble_eq_true rfl)⟩) rfl hl.1 rfl (Nat.le_of_ble_eq_true rfl) dL_refuses_85 ⟨by show ca + 1 + 1 + 1 + 1 + 1 ≤ 50; omega, by show sl + 6 + 6 + 6 + 6 + 6 ≤ 300; omega⟩ (fun r u H locs hw hP0 hS _ hkp => ?_)
  obtain ⟨er, hC0⟩ := sp_drift_no hC0 (nb_5 hx0) hw
  refine w_eqi er ?_
  refine lv_ldc (v := (-9999002)) hx hb hown (hts _ q_313) dL_refuses_88 ?_
  refine jI_ne (tgt := 200) hx hb dL_refuses_90 (by decide) (fun _ => ?_) (fun ck => absurd ((by decide)) ck)
  refine lv_aload_n hx hb dL_refuses_93 rfl (lv_at hl 1 rfl) ?_
  refine lv_sipush (v := (-301)) hx hb dL_refuses_94 (by decide) ?_
  refine kWi hx hb hml hown hts hK hP0 hS hKX hNC hA0 (As := [.ref (ad (0)), .int ((-301) : Int32)]) (rest := []) (c_L_drifts l hfl dC dI cA ad hI0 _ ((-301) : Int32)) (mkSW hts q_374 q_24 q_372 q_373 hyL_drifts rfl rfl ⟨(Nat.le_of_ble_eq_true rfl), (Nat.le_of_ble_eq_true rfl)⟩) rfl hl.1 rfl (Nat.le_of_ble_eq_true rfl) dL_refuses_97 ⟨by show ca + 1 + 1 + 1 + 1 + 1 + 1 ≤ 50; omega, by show sl + 6 + 6 + 6 + 6 + 6 + 6 ≤ 300; omega⟩ (fun r u H locs hw hP0 hS _ hkp => ?_)
  obtain ⟨er, hC0⟩ := sp_drift_no hC0 (by decide) hw
  refine w_eqi er ?_
  refine lv_ldc (v := (-9999002)) hx hb hown (hts _ q_313) dL_refuses_100 ?_
  refine jI_ne (tgt := 200) hx hb dL_refuses_102 (by decide) (fun _ => ?_) (fun ck => absurd ((by decide)) ck)
  refine lv_aload_n hx hb dL_refuses_105 rfl (lv_at hl 1 rfl) ?_
  refine lv_iconst (v := (-1)) hx hb dL_refuses_106 (by decide) ?_
  refine lv_iconst (v := 1) hx hb dL_refuses_107 (by decide) ?_
  refine kWl hx hb hml hown hts hK hP0 hS hKX hNC hA0 (As := [.ref (ad (0)), .int ((-1) : Int32), .int (1 : Int32)]) (rest := []) (c_L_announced l hfl dC dI cA ad hI0 _ ((-1) : Int32) (1 : Int32)) (mkSW hts q_385 q_24 q_383 q_384 hyL_announced rfl rfl ⟨(Nat.le_of_ble_eq_true rfl), (Nat.le_of_ble_eq_true rfl)⟩) rfl hl.1 rfl (Nat.le_of_ble_eq_true rfl) dL_refuses_108 ⟨by show ca + 1 + 1 + 1 + 1 + 1 + 1 + 1 ≤ 50; omega, by show sl + 6 + 6 + 6 + 6 + 6 + 6 + 6 ≤ 300; omega⟩ (fun r u H locs hw hP0 hS _ hkp => ?_)
  obtain ⟨er, hC0⟩ := sp_ann_no hC0 (by decide) hw
  refine w_eql er ?_
  refine lv_ldc2 (v := (-9999002)) hx hb hown (hts _ q_370) dL_refuses_111 ?_
  refine jL_ne (tgt := 200) hx hb dL_refuses_114 dL_refuses_115 (by decide) (fun _ => ?_) (fun ck => absurd ((by decide)) ck)
  refine lv_aload_n hx hb dL_refuses_118 rfl (lv_at hl 1 rfl) ?_
  refine lv_bipush (v := 21) hx hb dL_refuses_119 (by decide) ?_
  refine lv_iload_n hx hb dL_refuses_121 rfl (lv_at hl 2 rfl) ?_
  refine lv_iadd hx hb dL_refuses_122 ?_
  refine lv_iconst (v := 0) hx hb dL_refuses_123 (by decide) ?_
  refine kWl hx hb hml hown hts hK hP0 hS hKX hNC hA0 (As := [.ref (ad (0)), .int ((21 : Int32) + x), .int (0 : Int32)]) (rest := []) (c_L_announced l hfl dC dI cA ad hI0 _ ((21 : Int32) + x) (0 : Int32)) (mkSW hts q_385 q_24 q_383 q_384 hyL_announced rfl rfl ⟨(Nat.le_of_ble_eq_true rfl), (Nat.le_of_ble_eq_true rfl)⟩) rfl hl.1 rfl (Nat.le_of_ble_eq_true rfl) dL_refuses_124 ⟨by show ca + 1 + 1 + 1 + 1 + 1 + 1 + 1 + 1 ≤ 50; omega, by show sl + 6 + 6 + 6 + 6 + 6 + 6 + 6 + 6 ≤ 300; omega⟩ (fun r u H locs hw hP0 hS _ hkp => ?_)
  obtain ⟨er, hC0⟩ := sp_ann_no hC0 (nb_8 hx0) hw
  refine w_eql er ?_
  refine lv_ldc2 (v := (-9999002)) hx hb hown (hts _ q_370) dL_refuses_127 ?_
  refine jL_ne (tgt := 200) hx hb dL_refuses_130 dL_refuses_131 (by decide) (fun _ => ?_) (fun ck => absurd ((by decide)) ck)
  refine lv_aload_n hx hb dL_refuses_134 rfl (lv_at hl 1 rfl) ?_
  refine lv_iconst (v := 0) hx hb dL_refuses_135 (by decide) ?_
  refine lv_iconst (v := 0) hx hb dL_refuses_136 (by decide) ?_
  refine lv_iconst (v := 0) hx hb dL_refuses_137 (by decide) ?_
  refine lv_iconst (v := 0) hx hb dL_refuses_138 (by decide) ?_
  refine kWi hx hb hml hown hts hK hP0 hS hKX hNC hA0 (As := [.ref (ad (0)), .int (0 : Int32), .int (0 : Int32), .int (0 : Int32), .int (0 : Int32)]) (rest := []) (c_L_added l hfl dC dI cA ad hI0 _ (0 : Int32) (0 : Int32) (0 : Int32) (0 : Int32)) (mkSW hts q_401 q_24 q_399 q_400 hyL_added rfl rfl ⟨(Nat.le_of_ble_eq_true rfl), (Nat.le_of_ble_eq_true rfl)⟩) rfl hl.1 rfl (Nat.le_of_ble_eq_true rfl) dL_refuses_139 ⟨by show ca + 1 + 1 + 1 + 1 + 1 + 1 + 1 + 1 + 1 ≤ 50; omega, by show sl + 6 + 6 + 6 + 6 + 6 + 6 + 6 + 6 + 6 ≤ 300; omega⟩ (fun r u H locs hw hP0 hS _ hkp => ?_)
  obtain ⟨er, hC0⟩ := sp_add_no hC0 ns_1 hw
  refine w_eqi er ?_
  refine lv_ldc (v := (-9999002)) hx hb hown (hts _ q_313) dL_refuses_142 ?_
  refine jI_ne (tgt := 200) hx hb dL_refuses_144 (by decide) (fun _ => ?_) (fun ck => absurd ((by decide)) ck)
  refine lv_aload_n hx hb dL_refuses_147 rfl (lv_at hl 1 rfl) ?_
  refine lv_iconst (v := 1) hx hb dL_refuses_148 (by decide) ?_
  refine lv_ldc (v := (-1000001)) hx hb hown (hts _ q_424) dL_refuses_149 ?_
  refine lv_iconst (v := 0) hx hb dL_refuses_151 (by decide) ?_
  refine lv_iconst (v := 0) hx hb dL_refuses_152 (by decide) ?_
  refine kWi hx hb hml hown hts hK hP0 hS hKX hNC hA0 (As := [.ref (ad (0)), .int (1 : Int32), .int ((-1000001) : Int32), .int (0 : Int32), .int (0 : Int32)]) (rest := []) (c_L_added l hfl dC dI cA ad hI0 _ (1 : Int32) ((-1000001) : Int32) (0 : Int32) (0 : Int32)) (mkSW hts q_401 q_24 q_399 q_400 hyL_added rfl rfl ⟨(Nat.le_of_ble_eq_true rfl), (Nat.le_of_ble_eq_true rfl)⟩) rfl hl.1 rfl (Nat.le_of_ble_eq_true rfl) dL_refuses_153 ⟨by show ca + 1 + 1 + 1 + 1 + 1 + 1 + 1 + 1 + 1 + 1 ≤ 50; omega, by show sl + 6 + 6 + 6 + 6 + 6 + 6 + 6 + 6 + 6 + 6 ≤ 300; omega⟩ (fun r u H locs hw hP0 hS _ hkp => ?_)
  obtain ⟨er, hC0⟩ := sp_add_no hC0 ns_2 hw
  refine w_eqi er ?_
  refine lv_ldc (v := (-9999002)) hx hb hown (hts _ q_313) dL_refuses_156 ?_
  refine jI_ne (tgt := 200) hx hb dL_refuses_158 (by decide) (fun _ => ?_) (fun ck => absurd ((by decide)) ck)
  refine lv_aload_n hx hb dL_refuses_161 rfl (lv_at hl 1 rfl) ?_
  refine lv_iconst (v := 1) hx hb dL_refuses_162 (by decide) ?_
  refine lv_iconst (v := 0) hx hb dL_refuses_163 (by decide) ?_
  refine lv_iconst (v := (-1)) hx hb dL_refuses_164 (by decide) ?_
  refine lv_iconst (v := 0) hx hb dL_refuses_165 (by decide) ?_
  refine kWi hx hb hml hown hts hK hP0 hS hKX hNC hA0 (As := [.ref (ad (0)), .int (1 : Int32), .int (0 : Int32), .int ((-1) : Int32), .int (0 : Int32)]) (rest := []) (c_L_added l hfl dC dI cA ad hI0 _ (1 : Int32) (0 : Int32) ((-1) : Int32) (0 : Int32)) (mkSW hts q_401 q_24 q_399 q_400 hyL_added rfl rfl ⟨(Nat.le_of_ble_eq_true rfl), (Nat.le_of_ble_eq_true rfl)⟩) rfl hl.1 rfl (Nat.le_of_ble_eq_true rfl) dL_refuses_166 ⟨by show ca + 1 + 1 + 1 + 1 + 1 + 1 + 1 + 1 + 1 + 1 + 1 ≤ 50; omega, by show sl + 6 + 6 + 6 + 6 + 6 + 6 + 6 + 6 + 6 + 6 + 6 ≤ 300; omega⟩ (fun r u H locs hw hP0 hS _ hkp => ?_)
  obtain ⟨er, hC0⟩ := sp_add_no hC0 ns_3 hw
  refine w_eqi er ?_
  refine lv_ldc (v := (-9999002)) hx hb hown (hts _ q_313) dL_refuses_169 ?_
  refine jI_ne (tgt := 200) hx hb dL_refuses_171 (by decide) (fun _ => ?_) (fun ck => absurd ((by decide)) ck)
  refine lv_aload_n hx hb dL_refuses_174 rfl (lv_at hl 1 rfl) ?_
  refine kVi hx hb hml hown hts hK hP0 hS hA0 (As := []) (rest := []) (c_X5_servers l dC dI cA ad hI0 _ ) (mkV hts q_325 q_25 q_322 q_323 q_324 hyX5_servers rfl rfl ⟨(Nat.le_of_ble_eq_true rfl), (Nat.le_of_ble_eq_true rfl)⟩) (w_recv hK hP0 (k := 0) (by decide) lyC0 (q := (RX5, TX5, 10)) rfl) rfl hl.1 rfl (Nat.le_of_ble_eq_true rfl) dL_refuses_175 ⟨by show ca + 1 + 1 + 1 + 1 + 1 + 1 + 1 + 1 + 1 + 1 + 1 ≤ 50; omega, by show sl + 6 + 6 + 6 + 6 + 6 + 6 + 6 + 6 + 6 + 6 + 6 ≤ 300; omega⟩ (fun r u H locs hw hP0 hS _ hkp => ?_)
  obtain ⟨er, hC0⟩ := sp_servers hC0 hw
  refine w_eqi er ?_
  refine lv_bipush (v := 8) hx hb dL_refuses_178 (by decide) ?_
  refine jI_lt (tgt := 196) hx hb dL_refuses_180 (by decide) (fun c180 => ?_) (fun c180 => ?_)
  · refine lv_iconst (v := 1) hx hb dL_refuses_196 (by decide) ?_
    refine lv_goto (tgt := 201) hx hb dL_refuses_197 (by decide) ?_
    refine lv_istore_n (lv' := [(3, .int (1 : Int32)), (2, .int no), (0, .ref (ad (0))), (1, .int x)]) hx hb dL_refuses_201 rfl hl (by decide) rfl (fun ls hl => ?_)
    exact s_refuses_202 C ha hx0 kend _ hno _ _ _ _ _ _  hC0 hP0 hS (lv_sub hl [0, 1, 2, 3] rfl) (by omega) (by omega)
  · refine lv_aload_n hx hb dL_refuses_183 rfl (lv_at hl 1 rfl) ?_
    refine lv_iconst (v := 1) hx hb dL_refuses_184 (by decide) ?_
    refine lv_iconst (v := 0) hx hb dL_refuses_185 (by decide) ?_
    refine lv_iconst (v := 0) hx hb dL_refuses_186 (by decide) ?_
    refine lv_iconst (v := 0) hx hb dL_refuses_187 (by decide) ?_
    refine kWi hx hb hml hown hts hK hP0 hS hKX hNC hA0 (As := [.ref (ad (0)), .int (1 : Int32), .int (0 : Int32), .int (0 : Int32), .int (0 : Int32)]) (rest := []) (c_L_added l hfl dC dI cA ad hI0 _ (1 : Int32) (0 : Int32) (0 : Int32) (0 : Int32)) (mkSW hts q_401 q_24 q_399 q_400 hyL_added rfl rfl ⟨(Nat.le_of_ble_eq_true rfl), (Nat.le_of_ble_eq_true rfl)⟩) rfl hl.1 rfl (Nat.le_of_ble_eq_true rfl) dL_refuses_188 ⟨by show ca + 1 + 1 + 1 + 1 + 1 + 1 + 1 + 1 + 1 + 1 + 1 + 1 ≤ 50; omega, by show sl + 6 + 6 + 6 + 6 + 6 + 6 + 6 + 6 + 6 + 6 + 6 + 6 ≤ 300; omega⟩ (fun r u H locs hw hP0 hS _ hkp => ?_)
    obtain ⟨er, hC0⟩ := sp_add_full hC0 ok_1 c180 hw
    refine w_eqi er ?_
    refine lv_ldc (v := (-9999003)) hx hb hown (hts _ q_423) dL_refuses_191 ?_
    refine jI_ne (tgt := 200) hx hb dL_refuses_193 (by decide) (fun _ => ?_) (fun ck => absurd ((by decide)) ck)
    refine lv_iconst (v := 1) hx hb dL_refuses_196 (by decide) ?_
    refine lv_goto (tgt := 201) hx hb dL_refuses_197 (by decide) ?_
    refine lv_istore_n (lv' := [(3, .int (1 : Int32)), (2, .int no), (0, .ref (ad (0))), (1, .int x)]) hx hb dL_refuses_201 rfl hl (by decide) rfl (fun ls hl => ?_)
    exact s_refuses_202 C ha hx0 kend _ hno _ _ _ _ _ _  hC0 hP0 hS (lv_sub hl [0, 1, 2, 3] rfl) (by omega) (by omega)
set_option maxHeartbeats 4000000 in
set_option maxRecDepth 100000 in
theorem s_refuses_0 {p : Program} {l : Launch} {e : Env} {s : State} {m : MethodId} {args : Array Value} {below : List Frame} {meth : Method} {c : Code} {dC : Nat → ClassId} {dI : Nat → Nat → Nat} {cA : Nat → ClassId} {A : Nat → Prop} {ad : Nat → Nat} {Mm : Mem} {t : Int32} {x : Int32} (C : LK p l s m c args cL_refuses 5 dC dI cA A) (ha : CA A ad) (hx0 : 0 ≤ x.toInt ∧ x.toInt ≤ 9972) {Q : State → Prop} (kend : ∀ (rpc : Nat), decode cL_refuses rpc = .ok (.ireturn, 1) → ∀ (M : Mem) (H : Heap) (locs : List Loc) (ls : Array Slot) (ca sl : Nat), CL Mm t M → va_P (dC, dI) vwCl (wld 69 layC cA ad M) H → va_S A s.heap H locs → ca ≤ 50 → sl ≤ 300 → W p l e ({ frames := 11, cells := 50, slots := 300, locals := 300 } : Room) s m args below meth c H locs ca sl Q (F0 m rpc ls [.int 1])) :
    ∀  (M : Mem) (H : Heap) (locs : List Loc) (ls : Array Slot) (ca sl : Nat),  CL Mm t M → va_P (dC, dI) vwCl (wld 69 layC cA ad M) H → va_S A s.heap H locs → lv_has ls 5 [(0, .ref (ad (0))), (1, .int x)] → ca ≤ 0 → sl ≤ 0 → W p l e ({ frames := 11, cells := 50, slots := 300, locals := 300 } : Room) s m args below meth c H locs ca sl Q (F0 m 0 ls []) := by
  obtain ⟨hx, hb, hml, hown, hts, hK, hKX, hNC, hfl⟩ := id C
  obtain ⟨hI0, hA0⟩ := id ha
  intro M H locs ls ca sl hC0 hP0 hS hl hca hsl
  refine lv_iload_n hx hb dL_refuses_0 rfl (lv_at hl 1 rfl) ?_
  refine lv_iconst (v := 2) hx hb dL_refuses_1 (by decide) ?_
  refine lv_irem hx hb dL_refuses_2 (by decide) ?_
  refine w_eqi (y := rem x (2 : Int32)) rfl ?_
  refine j0_ne (tgt := 15) hx hb dL_refuses_3 (by decide) (fun c3 => ?_) (fun c3 => ?_)
  · refine lv_iconst (v := (-1)) hx hb dL_refuses_6 (by decide) ?_
    refine lv_iload_n hx hb dL_refuses_7 rfl (lv_at hl 1 rfl) ?_
    refine lv_bipush (v := 50) hx hb dL_refuses_8 (by decide) ?_
    refine lv_irem hx hb dL_refuses_10 (by decide) ?_
    refine w_eqi (y := rem x (50 : Int32)) rfl ?_
    refine lv_isub hx hb dL_refuses_11 ?_
    refine lv_goto (tgt := 24) hx hb dL_refuses_12 (by decide) ?_
    obtain ⟨no, eno, hno⟩ := (⟨_, rfl, no_neg hx0⟩ : ∃ z : Int32, (((-1) : Int32) - (rem x (50 : Int32))) = z ∧ noS Mm z)
    refine w_eqi eno ?_
    refine lv_istore_n (lv' := [(2, .int no), (0, .ref (ad (0))), (1, .int x)]) hx hb dL_refuses_24 rfl hl (by decide) rfl (fun ls hl => ?_)
    exact s_refuses_25 C ha hx0 kend _ hno _ _ _ _ _ _  hC0 hP0 hS (lv_sub hl [0, 1, 2] rfl) (by omega) (by omega)
  · refine lv_aload_n hx hb dL_refuses_15 rfl (lv_at hl 0 rfl) ?_
    refine kVi hx hb hml hown hts hK hP0 hS hA0 (As := []) (rest := []) (c_X5_servers l dC dI cA ad hI0 _ ) (mkV hts q_325 q_25 q_322 q_323 q_324 hyX5_servers rfl rfl ⟨(Nat.le_of_ble_eq_true rfl), (Nat.le_of_ble_eq_true rfl)⟩) (w_recv hK hP0 (k := 0) (by decide) lyC0 (q := (RX5, TX5, 10)) rfl) rfl hl.1 rfl (Nat.le_of_ble_eq_true rfl) dL_refuses_16 ⟨by show ca ≤ 50; omega, by show sl ≤ 300; omega⟩ (fun r u H locs hw hP0 hS _ hkp => ?_)
    obtain ⟨er, hC0⟩ := sp_servers hC0 hw
    refine w_eqi er ?_
    refine lv_iload_n hx hb dL_refuses_19 rfl (lv_at hl 1 rfl) ?_
    refine lv_bipush (v := 50) hx hb dL_refuses_20 (by decide) ?_
    refine lv_irem hx hb dL_refuses_22 (by decide) ?_
    refine w_eqi (y := rem x (50 : Int32)) rfl ?_
    refine lv_iadd hx hb dL_refuses_23 ?_
    obtain ⟨no, eno, hno⟩ := (⟨_, rfl, no_big hx0 hC0.s8⟩ : ∃ z : Int32, ((nI (sn Mm)) + (rem x (50 : Int32))) = z ∧ noS Mm z)
    refine w_eqi eno ?_
    refine lv_istore_n (lv' := [(2, .int no), (0, .ref (ad (0))), (1, .int x)]) hx hb dL_refuses_24 rfl hl (by decide) rfl (fun ls hl => ?_)
    exact s_refuses_25 C ha hx0 kend _ hno _ _ _ _ _ _  hC0 hP0 hS (lv_sub hl [0, 1, 2] rfl) (by omega) (by omega)
theorem hyL_refuses : yL_refuses.cls ≠ "java/lang/invoke/MethodHandle" ∧ yL_refuses.cls ≠ "java/lang/invoke/VarHandle" ∧ (parseMethodDescriptor yL_refuses.desc).map (fun d => d.parameters.length) = some 2 := by decide +kernel
set_option maxHeartbeats 4000000 in
set_option maxRecDepth 100000 in
theorem c_L_refuses (l : Launch) (hfl : l.stackTraces = false) (dC : Nat → ClassId) (dI : Nat → Nat → Nat) (cA : Nat → ClassId) (ad : Nat → Nat) (hI : Inj 69 ad) {M Mm : Mem} {t : Int32} (hC : CL Mm t M) {x : Int32} (hx0 : 0 ≤ x.toInt ∧ x.toInt ≤ 9972) : Met l yL_refuses (.code yL_refuses cL_refuses 5 (some .boolean) :: AG) ({ frames := 11, cells := 50, slots := 300, locals := 300 } : Room) (va_Pc [.ref (ad (0)), .int x] (PWz dC dI cA ad M)) (va_Qi (fun r u => r = 1 ∧ CL Mm t u) (PC dC dI cA ad) (adS 69 ad)) 50 300 (adS 69 ad) := by
  refine yMet (by decide) (Nat.le_of_ble_eq_true rfl) ?_
  intro p e s m below meth c ls hx hb hr hml hlocks hown hts hK hP hS hl hKX hNC
  exact s_refuses_0 ⟨hx, hb, hml, hown, hts, hK, hKX, hNC, hfl⟩ ⟨hI, fun _ h => h⟩ hx0 (fun rpc hd M H locs ls ca sl hC1 hP1 hS1 hca hsl => W.widen hca hsl (W.zret hx hb hr (v := 1) rfl (fun t ht hW => ⟨⟨1, M, rfl, ⟨rfl, hC1⟩, by rw [ht]; exact hP1, va_K.moved hW.alike hK⟩, hS1.F ht⟩) hS1.2.2 hd)) M _ _ _ 0 0 hC hP hS hl (by omega) (by omega)
