/-! holds: what is true of a selection -/
set_option maxHeartbeats 4000000 in
set_option maxRecDepth 100000 in
theorem s_holds_424 {p : Program} {l : Launch} {e : Env} {s : State} {m : MethodId} {args : Array Value} {below : List Frame} {meth : Method} {c : Code} {dC : Nat → ClassId} {dI : Nat → Nat → Nat} {cA : Nat → ClassId} {A : Nat → Prop} {ad : Nat → Nat} {Mm : Mem} {t : Int32}  (C : LK p l s m c args cL_holds 14 dC dI cA A) (ha : CA A ad)  {Q : State → Prop} (kend : ∀ (rpc : Nat), decode cL_holds rpc = .ok (.ireturn, 1) → ∀ (M : Mem) (H : Heap) (locs : List Loc) (ls : Array Slot) (ca sl : Nat), CL Mm t M → va_P (dC, dI) vwCl (wld 69 layC cA ad M) H → va_S A s.heap H locs → ca ≤ 260 → sl ≤ 1560 → W p l e ({ frames := 11, cells := 260, slots := 1560, locals := 300 } : Room) s m args below meth c H locs ca sl Q (F0 m rpc ls [.int 1])) :
    ∀ (y9 y11 : Int64) (hcn : ¬ CN Mm = 0) (hlg : LG Mm (sn Mm) y9 y11) (M : Mem) (H : Heap) (locs : List Loc) (ls : Array Slot) (ca sl : Nat),  CL Mm t M → va_P (dC, dI) vwCl (wld 69 layC cA ad M) H → va_S A s.heap H locs → lv_has ls 14 [(11, .long y11), (9, .long y9), (7, .long (meA Mm)), (5, .int (nI (SN Mm))), (4, .int (nI (AN Mm))), (3, .int (svS Mm)), (1, .int (nI (CN Mm))), (0, .ref (ad (0)))] → ca ≤ 241 → sl ≤ 1446 → W p l e ({ frames := 11, cells := 260, slots := 1560, locals := 300 } : Room) s m args below meth c H locs ca sl Q (F0 m 424 ls []) := by
  obtain ⟨hx, hb, hml, hown, hts, hK, hKX, hNC, hfl⟩ := id C
  obtain ⟨hI0, hA0⟩ := id ha
  intro y9 y11 hcn hlg M H locs ls ca sl hC0 hP0 hS hl hca hsl
  refine lv_aload_n hx hb dL_holds_424 rfl (lv_at hl 7 rfl) ?_
  refine kVi hx hb hml hown hts hK hP0 hS hA0 (As := []) (rest := []) (c_X5_agreement l dC dI cA ad hI0 _ ) (mkV hts q_713 q_25 q_710 q_711 q_712 hyX5_agreement rfl rfl ⟨(Nat.le_of_ble_eq_true rfl), (Nat.le_of_ble_eq_true rfl)⟩) (w_recv hK hP0 (k := 0) (by decide) lyC0 (q := (RX5, TX5, 10)) rfl) rfl hl.1 rfl (Nat.le_of_ble_eq_true rfl) dL_holds_425 ⟨by show ca ≤ 260; omega, by show sl ≤ 1560; omega⟩ (fun r u H locs hw hP0 hS _ hkp => ?_)
  obtain ⟨er, hC0⟩ := sp_agmt hC0 hw
  refine w_eqi er ?_
  refine lv_iload hx hb dL_holds_428 (lv_at hl 4 rfl) ?_
  refine jI_ne (tgt := 531) hx hb dL_holds_430 (by decide) (fun _ => ?_) (fun ck => absurd (rfl) ck)
  refine lv_aload_n hx hb dL_holds_433 rfl (lv_at hl 7 rfl) ?_
  refine kVi hx hb hml hown hts hK hP0 hS hA0 (As := []) (rest := []) (c_X5_hasMajority l dC dI cA ad hI0 _ ) (mkV hts q_578 q_25 q_575 q_576 q_577 hyX5_hasMajority rfl rfl ⟨(Nat.le_of_ble_eq_true rfl), (Nat.le_of_ble_eq_true rfl)⟩) (w_recv hK hP0 (k := 0) (by decide) lyC0 (q := (RX5, TX5, 10)) rfl) rfl hl.1 rfl (Nat.le_of_ble_eq_true rfl) dL_holds_434 ⟨by show ca ≤ 260; omega, by show sl ≤ 1560; omega⟩ (fun r u H locs hw hP0 hS _ hkp => ?_)
  obtain ⟨er, hC0⟩ := sp_maj hC0 hw
  refine w_eqi er ?_
  refine lv_iconst (v := 2) hx hb dL_holds_437 (by decide) ?_
  refine lv_iload hx hb dL_holds_438 (lv_at hl 4 rfl) ?_
  refine lv_imul hx hb dL_holds_440 ?_
  refine lv_iload_n hx hb dL_holds_441 rfl (lv_at hl 6 rfl) ?_
  refine jI_le (tgt := 449) hx hb dL_holds_442 (by decide) (fun c442 => ?_) (fun c442 => ?_)
  · refine lv_iconst (v := 1) hx hb dL_holds_445 (by decide) ?_
    refine lv_goto (tgt := 450) hx hb dL_holds_446 (by decide) ?_
    refine jI_ne (tgt := 531) hx hb dL_holds_450 (by decide) (fun _ => ?_) (fun ck => absurd (mj_1 c442) ck)
    refine lv_iload hx hb dL_holds_453 (lv_at hl 4 rfl) ?_
    refine lv_iconst (v := 1) hx hb dL_holds_455 (by decide) ?_
    refine jI_lt (tgt := 531) hx hb dL_holds_456 (by decide) (fun ck => absurd ck ((an_1 hC0 hcn).1)) (fun _ => ?_)
    refine lv_iload hx hb dL_holds_459 (lv_at hl 3 rfl) ?_
    refine lv_iconst (v := 1) hx hb dL_holds_461 (by decide) ?_
    refine jI_lt (tgt := 531) hx hb dL_holds_462 (by decide) (fun ck => absurd ck ((an_1 hC0 hcn).2)) (fun _ => ?_)
    refine lv_iload hx hb dL_holds_465 (lv_at hl 4 rfl) ?_
    refine lv_iconst (v := 3) hx hb dL_holds_467 (by decide) ?_
    refine jI_le (tgt := 480) hx hb dL_holds_468 (by decide) (fun c468 => ?_) (fun c468 => ?_)
    · refine lv_iload hx hb dL_holds_471 (lv_at hl 3 rfl) ?_
      refine lv_iconst (v := 3) hx hb dL_holds_473 (by decide) ?_
      refine jI_lt (tgt := 531) hx hb dL_holds_474 (by decide) (fun ck => absurd ck (an_3 hC0 c468)) (fun _ => ?_)
      refine lv_goto (tgt := 487) hx hb dL_holds_477 (by decide) ?_
      refine lv_aload_n hx hb dL_holds_487 rfl (lv_at hl 7 rfl) ?_
      refine kWl hx hb hml hown hts hK hP0 hS hKX hNC hA0 (As := [.ref (ad (0))]) (rest := []) (c_L_low l hfl dC dI cA ad hI0 _ ) (mkSW hts q_717 q_24 q_715 q_716 hyL_low rfl rfl ⟨(Nat.le_of_ble_eq_true rfl), (Nat.le_of_ble_eq_true rfl)⟩) rfl hl.1 rfl (Nat.le_of_ble_eq_true rfl) dL_holds_488 ⟨by show ca + 1 ≤ 260; omega, by show sl + 6 ≤ 1560; omega⟩ (fun r u H locs hw hP0 hS _ hkp => ?_)
      obtain ⟨er, hC0⟩ := sp_low hC0 hw
      refine w_eql er ?_
      refine lv_aload_n hx hb dL_holds_491 rfl (lv_at hl 7 rfl) ?_
      refine kWl hx hb hml hown hts hK hP0 hS hKX hNC hA0 (As := [.ref (ad (0))]) (rest := [.long (loA Mm)]) (c_L_high l hfl dC dI cA ad hI0 _ ) (mkSW hts q_736 q_24 q_734 q_735 hyL_high rfl rfl ⟨(Nat.le_of_ble_eq_true rfl), (Nat.le_of_ble_eq_true rfl)⟩) rfl hl.1 rfl (Nat.le_of_ble_eq_true rfl) dL_holds_492 ⟨by show ca + 1 + 1 ≤ 260; omega, by show sl + 6 + 6 ≤ 1560; omega⟩ (fun r u H locs hw hP0 hS _ hkp => ?_)
      obtain ⟨er, hC0⟩ := sp_high hC0 hw
      refine w_eql er ?_
      refine jL_gt (tgt := 531) hx hb dL_holds_495 dL_holds_496 (by decide) (fun ck => absurd ck (lh_A hC0 hcn)) (fun _ => ?_)
      refine lv_lload hx hb dL_holds_499 (lv_at hl 1 rfl) ?_
      refine lv_lload hx hb dL_holds_501 (lv_at hl 2 rfl) ?_
      refine jL_gt (tgt := 531) hx hb dL_holds_503 dL_holds_504 (by decide) (fun ck => absurd ck ((lg_end hC0 hcn hlg).1)) (fun _ => ?_)
      refine lv_lload hx hb dL_holds_507 (lv_at hl 2 rfl) ?_
      refine lv_lload hx hb dL_holds_509 (lv_at hl 0 rfl) ?_
      refine jL_gt (tgt := 531) hx hb dL_holds_511 dL_holds_512 (by decide) (fun ck => absurd ck ((lg_end hC0 hcn hlg).2)) (fun _ => ?_)
      refine lv_iload_n hx hb dL_holds_515 rfl (lv_at hl 5 rfl) ?_
      refine lv_aload_n hx hb dL_holds_516 rfl (lv_at hl 7 rfl) ?_
      refine kVi hx hb hml hown hts hK hP0 hS hA0 (As := []) (rest := [.int (svS Mm)]) (c_X5_peer l dC dI cA ad hI0 _ ) (mkV hts q_796 q_25 q_793 q_794 q_795 hyX5_peer rfl rfl ⟨(Nat.le_of_ble_eq_true rfl), (Nat.le_of_ble_eq_true rfl)⟩) (w_recv hK hP0 (k := 0) (by decide) lyC0 (q := (RX5, TX5, 10)) rfl) rfl hl.1 rfl (Nat.le_of_ble_eq_true rfl) dL_holds_517 ⟨by show ca + 1 + 1 ≤ 260; omega, by show sl + 6 + 6 ≤ 1560; omega⟩ (fun r u H locs hw hP0 hS _ hkp => ?_)
      obtain ⟨er, hC0⟩ := sp_peer hC0 hw
      refine w_eqi er ?_
      refine lv_ishr hx hb dL_holds_520 ?_
      refine lv_iconst (v := 1) hx hb dL_holds_521 (by decide) ?_
      refine lv_iand hx hb dL_holds_522 ?_
      refine lv_iconst (v := 1) hx hb dL_holds_523 (by decide) ?_
      refine jI_ne (tgt := 531) hx hb dL_holds_524 (by decide) (fun _ => ?_) (fun ck => absurd (pe_bit hC0 hcn) ck)
      refine lv_iconst (v := 1) hx hb dL_holds_527 (by decide) ?_
      refine lv_goto (tgt := 532) hx hb dL_holds_528 (by decide) ?_
      exact kend 532 dL_holds_532 _ _ _ _ _ _ hC0 hP0 hS (by omega) (by omega)
    · refine lv_iload hx hb dL_holds_480 (lv_at hl 3 rfl) ?_
      refine lv_iload hx hb dL_holds_482 (lv_at hl 4 rfl) ?_
      refine jI_ne (tgt := 531) hx hb dL_holds_484 (by decide) (fun _ => ?_) (fun ck => absurd (an_le hC0 c468) ck)
      refine lv_aload_n hx hb dL_holds_487 rfl (lv_at hl 7 rfl) ?_
      refine kWl hx hb hml hown hts hK hP0 hS hKX hNC hA0 (As := [.ref (ad (0))]) (rest := []) (c_L_low l hfl dC dI cA ad hI0 _ ) (mkSW hts q_717 q_24 q_715 q_716 hyL_low rfl rfl ⟨(Nat.le_of_ble_eq_true rfl), (Nat.le_of_ble_eq_true rfl)⟩) rfl hl.1 rfl (Nat.le_of_ble_eq_true rfl) dL_holds_488 ⟨by show ca + 1 ≤ 260; omega, by show sl + 6 ≤ 1560; omega⟩ (fun r u H locs hw hP0 hS _ hkp => ?_)
      obtain ⟨er, hC0⟩ := sp_low hC0 hw
      refine w_eql er ?_
      refine lv_aload_n hx hb dL_holds_491 rfl (lv_at hl 7 rfl) ?_
      refine kWl hx hb hml hown hts hK hP0 hS hKX hNC hA0 (As := [.ref (ad (0))]) (rest := [.long (loA Mm)]) (c_L_high l hfl dC dI cA ad hI0 _ ) (mkSW hts q_736 q_24 q_734 q_735 hyL_high rfl rfl ⟨(Nat.le_of_ble_eq_true rfl), (Nat.le_of_ble_eq_true rfl)⟩) rfl hl.1 rfl (Nat.le_of_ble_eq_true rfl) dL_holds_492 ⟨by show ca + 1 + 1 ≤ 260; omega, by show sl + 6 + 6 ≤ 1560; omega⟩ (fun r u H locs hw hP0 hS _ hkp => ?_)
      obtain ⟨er, hC0⟩ := sp_high hC0 hw
      refine w_eql er ?_
      refine jL_gt (tgt := 531) hx hb dL_holds_495 dL_holds_496 (by decide) (fun ck => absurd ck (lh_A hC0 hcn)) (fun _ => ?_)
      refine lv_lload hx hb dL_holds_499 (lv_at hl 1 rfl) ?_
      refine lv_lload hx hb dL_holds_501 (lv_at hl 2 rfl) ?_
      refine jL_gt (tgt := 531) hx hb dL_holds_503 dL_holds_504 (by decide) (fun ck => absurd ck ((lg_end hC0 hcn hlg).1)) (fun _ => ?_)
      refine lv_lload hx hb dL_holds_507 (lv_at hl 2 rfl) ?_
      refine lv_lload hx hb dL_holds_509 (lv_at hl 0 rfl) ?_
      refine jL_gt (tgt := 531) hx hb dL_holds_511 dL_holds_512 (by decide) (fun ck => absurd ck ((lg_end hC0 hcn hlg).2)) (fun _ => ?_)
      refine lv_iload_n hx hb dL_holds_515 rfl (lv_at hl 5 rfl) ?_
      refine lv_aload_n hx hb dL_holds_516 rfl (lv_at hl 7 rfl) ?_
      refine kVi hx hb hml hown hts hK hP0 hS hA0 (As := []) (rest := [.int (svS Mm)]) (c_X5_peer l dC dI cA ad hI0 _ ) (mkV hts q_796 q_25 q_793 q_794 q_795 hyX5_peer rfl rfl ⟨(Nat.le_of_ble_eq_true rfl), (Nat.le_of_ble_eq_true rfl)⟩) (w_recv hK hP0 (k := 0) (by decide) lyC0 (q := (RX5, TX5, 10)) rfl) rfl hl.1 rfl (Nat.le_of_ble_eq_true rfl) dL_holds_517 ⟨by show ca + 1 + 1 ≤ 260; omega, by show sl + 6 + 6 ≤ 1560; omega⟩ (fun r u H locs hw hP0 hS _ hkp => ?_)
      obtain ⟨er, hC0⟩ := sp_peer hC0 hw
      refine w_eqi er ?_
      refine lv_ishr hx hb dL_holds_520 ?_
      refine lv_iconst (v := 1) hx hb dL_holds_521 (by decide) ?_
      refine lv_iand hx hb dL_holds_522 ?_
      refine lv_iconst (v := 1) hx hb dL_holds_523 (by decide) ?_
      refine jI_ne (tgt := 531) hx hb dL_holds_524 (by decide) (fun _ => ?_) (fun ck => absurd (pe_bit hC0 hcn) ck)
      refine lv_iconst (v := 1) hx hb dL_holds_527 (by decide) ?_
      refine lv_goto (tgt := 532) hx hb dL_holds_528 (by decide) ?_
      exact kend 532 dL_holds_532 _ _ _ _ _ _ hC0 hP0 hS (by omega) (by omega)
  · refine lv_iconst (v := 0) hx hb dL_holds_449 (by decide) ?_
    refine jI_ne (tgt := 531) hx hb dL_holds_450 (by decide) (fun _ => ?_) (fun ck => absurd (mj_0 c442) ck)
    refine lv_iload hx hb dL_holds_453 (lv_at hl 4 rfl) ?_
    refine lv_iconst (v := 1) hx hb dL_holds_455 (by decide) ?_
    refine jI_lt (tgt := 531) hx hb dL_holds_456 (by decide) (fun ck => absurd ck ((an_1 hC0 hcn).1)) (fun _ => ?_)
    refine lv_iload hx hb dL_holds_459 (lv_at hl 3 rfl) ?_
    refine lv_iconst (v := 1) hx hb dL_holds_461 (by decide) ?_
    refine jI_lt (tgt := 531) hx hb dL_holds_462 (by decide) (fun ck => absurd ck ((an_1 hC0 hcn).2)) (fun _ => ?_)
    refine lv_iload hx hb dL_holds_465 (lv_at hl 4 rfl) ?_
    refine lv_iconst (v := 3) hx hb dL_holds_467 (by decide) ?_
    refine jI_le (tgt := 480) hx hb dL_holds_468 (by decide) (fun c468 => ?_) (fun c468 => ?_)
    · refine lv_iload hx hb dL_holds_471 (lv_at hl 3 rfl) ?_
      refine lv_iconst (v := 3) hx hb dL_holds_473 (by decide) ?_
      refine jI_lt (tgt := 531) hx hb dL_holds_474 (by decide) (fun ck => absurd ck (an_3 hC0 c468)) (fun _ => ?_)
      refine lv_goto (tgt := 487) hx hb dL_holds_477 (by decide) ?_
      refine lv_aload_n hx hb dL_holds_487 rfl (lv_at hl 7 rfl) ?_
      refine kWl hx hb hml hown hts hK hP0 hS hKX hNC hA0 (As := [.ref (ad (0))]) (rest := []) (c_L_low l hfl dC dI cA ad hI0 _ ) (mkSW hts q_717 q_24 q_715 q_716 hyL_low rfl rfl ⟨(Nat.le_of_ble_eq_true rfl), (Nat.le_of_ble_eq_true rfl)⟩) rfl hl.1 rfl (Nat.le_of_ble_eq_true rfl) dL_holds_488 ⟨by show ca + 1 ≤ 260; omega, by show sl + 6 ≤ 1560; omega⟩ (fun r u H locs hw hP0 hS _ hkp => ?_)
      obtain ⟨er, hC0⟩ := sp_low hC0 hw
      refine w_eql er ?_
      refine lv_aload_n hx hb dL_holds_491 rfl (lv_at hl 7 rfl) ?_
      refine kWl hx hb hml hown hts hK hP0 hS hKX hNC hA0 (As := [.ref (ad (0))]) (rest := [.long (loA Mm)]) (c_L_high l hfl dC dI cA ad hI0 _ ) (mkSW hts q_736 q_24 q_734 q_735 hyL_high rfl rfl ⟨(Nat.le_of_ble_eq_true rfl), (Nat.le_of_ble_eq_true rfl)⟩) rfl hl.1 rfl (Nat.le_of_ble_eq_true rfl) dL_holds_492 ⟨by show ca + 1 + 1 ≤ 260; omega, by show sl + 6 + 6 ≤ 1560; omega⟩ (fun r u H locs hw hP0 hS _ hkp => ?_)
      obtain ⟨er, hC0⟩ := sp_high hC0 hw
      refine w_eql er ?_
      refine jL_gt (tgt := 531) hx hb dL_holds_495 dL_holds_496 (by decide) (fun ck => absurd ck (lh_A hC0 hcn)) (fun _ => ?_)
      refine lv_lload hx hb dL_holds_499 (lv_at hl 1 rfl) ?_
      refine lv_lload hx hb dL_holds_501 (lv_at hl 2 rfl) ?_
      refine jL_gt (tgt := 531) hx hb dL_holds_503 dL_holds_504 (by decide) (fun ck => absurd ck ((lg_end hC0 hcn hlg).1)) (fun _ => ?_)
      refine lv_lload hx hb dL_holds_507 (lv_at hl 2 rfl) ?_
      refine lv_lload hx hb dL_holds_509 (lv_at hl 0 rfl) ?_
      refine jL_gt (tgt := 531) hx hb dL_holds_511 dL_holds_512 (by decide) (fun ck => absurd ck ((lg_end hC0 hcn hlg).2)) (fun _ => ?_)
      refine lv_iload_n hx hb dL_holds_515 rfl (lv_at hl 5 rfl) ?_
      refine lv_aload_n hx hb dL_holds_516 rfl (lv_at hl 7 rfl) ?_
      refine kVi hx hb hml hown hts hK hP0 hS hA0 (As := []) (rest := [.int (svS Mm)]) (c_X5_peer l dC dI cA ad hI0 _ ) (mkV hts q_796 q_25 q_793 q_794 q_795 hyX5_peer rfl rfl ⟨(Nat.le_of_ble_eq_true rfl), (Nat.le_of_ble_eq_true rfl)⟩) (w_recv hK hP0 (k := 0) (by decide) lyC0 (q := (RX5, TX5, 10)) rfl) rfl hl.1 rfl (Nat.le_of_ble_eq_true rfl) dL_holds_517 ⟨by show ca + 1 + 1 ≤ 260; omega, by show sl + 6 + 6 ≤ 1560; omega⟩ (fun r u H locs hw hP0 hS _ hkp => ?_)
      obtain ⟨er, hC0⟩ := sp_peer hC0 hw
      refine w_eqi er ?_
      refine lv_ishr hx hb dL_holds_520 ?_
      refine lv_iconst (v := 1) hx hb dL_holds_521 (by decide) ?_
      refine lv_iand hx hb dL_holds_522 ?_
      refine lv_iconst (v := 1) hx hb dL_holds_523 (by decide) ?_
      refine jI_ne (tgt := 531) hx hb dL_holds_524 (by decide) (fun _ => ?_) (fun ck => absurd (pe_bit hC0 hcn) ck)
      refine lv_iconst (v := 1) hx hb dL_holds_527 (by decide) ?_
      refine lv_goto (tgt := 532) hx hb dL_holds_528 (by decide) ?_
      exact kend 532 dL_holds_532 _ _ _ _ _ _ hC0 hP0 hS (by omega) (by omega)
    · refine lv_iload hx hb dL_holds_480 (lv_at hl 3 rfl) ?_
      refine lv_iload hx hb dL_holds_482 (lv_at hl 4 rfl) ?_
      refine jI_ne (tgt := 531) hx hb dL_holds_484 (by decide) (fun _ => ?_) (fun ck => absurd (an_le hC0 c468) ck)
      refine lv_aload_n hx hb dL_holds_487 rfl (lv_at hl 7 rfl) ?_
      refine kWl hx hb hml hown hts hK hP0 hS hKX hNC hA0 (As := [.ref (ad (0))]) (rest := []) (c_L_low l hfl dC dI cA ad hI0 _ ) (mkSW hts q_717 q_24 q_715 q_716 hyL_low rfl rfl ⟨(Nat.le_of_ble_eq_true rfl), (Nat.le_of_ble_eq_true rfl)⟩) rfl hl.1 rfl (Nat.le_of_ble_eq_true rfl) dL_holds_488 ⟨by show ca + 1 ≤ 260; omega, by show sl + 6 ≤ 1560; omega⟩ (fun r u H locs hw hP0 hS _ hkp => ?_)
      obtain ⟨er, hC0⟩ := sp_low hC0 hw
      refine w_eql er ?_
      refine lv_aload_n hx hb dL_holds_491 rfl (lv_at hl 7 rfl) ?_
      refine kWl hx hb hml hown hts hK hP0 hS hKX hNC hA0 (As := [.ref (ad (0))]) (rest := [.long (loA Mm)]) (c_L_high l hfl dC dI cA ad hI0 _ ) (mkSW hts q_736 q_24 q_734 q_735 hyL_high rfl rfl ⟨(Nat.le_of_ble_eq_true rfl), (Nat.le_of_ble_eq_true rfl)⟩) rfl hl.1 rfl (Nat.le_of_ble_eq_true rfl) dL_holds_492 ⟨by show ca + 1 + 1 ≤ 260; omega, by show sl + 6 + 6 ≤ 1560; omega⟩ (fun r u H locs hw hP0 hS _ hkp => ?_)
      obtain ⟨er, hC0⟩ := sp_high hC0 hw
      refine w_eql er ?_
      refine jL_gt (tgt := 531) hx hb dL_holds_495 dL_holds_496 (by decide) (fun ck => absurd ck (lh_A hC0 hcn)) (fun _ => ?_)
      refine lv_lload hx hb dL_holds_499 (lv_at hl 1 rfl) ?_
      refine lv_lload hx hb dL_holds_501 (lv_at hl 2 rfl) ?_
      refine jL_gt (tgt := 531) hx hb dL_holds_503 dL_holds_504 (by decide) (fun ck => absurd ck ((lg_end hC0 hcn hlg).1)) (fun _ => ?_)
      refine lv_lload hx hb dL_holds_507 (lv_at hl 2 rfl) ?_
      refine lv_lload hx hb dL_holds_509 (lv_at hl 0 rfl) ?_
      refine jL_gt (tgt := 531) hx hb dL_holds_511 dL_holds_512 (by decide) (fun ck => absurd ck ((lg_end hC0 hcn hlg).2)) (fun _ => ?_)
      refine lv_iload_n hx hb dL_holds_515 rfl (lv_at hl 5 rfl) ?_
      refine lv_aload_n hx hb dL_holds_516 rfl (lv_at hl 7 rfl) ?_
      refine kVi hx hb hml hown hts hK hP0 hS hA0 (As := []) (rest := [.int (svS Mm)]) (c_X5_peer l dC dI cA ad hI0 _ ) (mkV hts q_796 q_25 q_793 q_794 q_795 hyX5_peer rfl rfl ⟨(Nat.le_of_ble_eq_true rfl), (Nat.le_of_ble_eq_true rfl)⟩) (w_recv hK hP0 (k := 0) (by decide) lyC0 (q := (RX5, TX5, 10)) rfl) rfl hl.1 rfl (Nat.le_of_ble_eq_true rfl) dL_holds_517 ⟨by show ca + 1 + 1 ≤ 260; omega, by show sl + 6 + 6 ≤ 1560; omega⟩ (fun r u H locs hw hP0 hS _ hkp => ?_)
      obtain ⟨er, hC0⟩ := sp_peer hC0 hw
      refine w_eqi er ?_
      refine lv_ishr hx hb dL_holds_520 ?_
      refine lv_iconst (v := 1) hx hb dL_holds_521 (by decide) ?_
      refine lv_iand hx hb dL_holds_522 ?_
      refine lv_iconst (v := 1) hx hb dL_holds_523 (by decide) ?_
      refine jI_ne (tgt := 531) hx hb dL_holds_524 (by decide) (fun _ => ?_) (fun ck => absurd (pe_bit hC0 hcn) ck)
      refine lv_iconst (v := 1) hx hb dL_holds_527 (by decide) ?_
      refine lv_goto (tgt := 532) hx hb dL_holds_528 (by decide) ?_
      exact kend 532 dL_holds_532 _ _ _ _ _ _ hC0 hP0 hS (by omega) (by omega)
set_option maxHeartbeats 4000000 in
set_option maxRecDepth 100000 in
theorem s_holds_349 {p : Program} {l : Launch} {e : Env} {s : State} {m : MethodId} {args : Array Value} {below : List Frame} {meth : Method} {c : Code} {dC : Nat → ClassId} {dI : Nat → Nat → Nat} {cA : Nat → ClassId} {A : Nat → Prop} {ad : Nat → Nat} {Mm : Mem} {t : Int32}  (C : LK p l s m c args cL_holds 14 dC dI cA A) (ha : CA A ad)  {Q : State → Prop} (kend : ∀ (rpc : Nat), decode cL_holds rpc = .ok (.ireturn, 1) → ∀ (M : Mem) (H : Heap) (locs : List Loc) (ls : Array Slot) (ca sl : Nat), CL Mm t M → va_P (dC, dI) vwCl (wld 69 layC cA ad M) H → va_S A s.heap H locs → ca ≤ 260 → sl ≤ 1560 → W p l e ({ frames := 11, cells := 260, slots := 1560, locals := 300 } : Room) s m args below meth c H locs ca sl Q (F0 m rpc ls [.int 1])) :
    ∀ (r i : Nat) (y9 y11 : Int64) (hcn : ¬ CN Mm = 0) (M : Mem) (H : Heap) (locs : List Loc) (ls : Array Slot) (ca sl : Nat), i + r = 9 → i ≤ sn Mm → LG Mm i y9 y11 →  CL Mm t M → va_P (dC, dI) vwCl (wld 69 layC cA ad M) H → va_S A s.heap H locs → lv_has ls 14 [(13, .int (nI i)), (11, .long y11), (9, .long y9), (7, .long (meA Mm)), (5, .int (nI (SN Mm))), (4, .int (nI (AN Mm))), (3, .int (svS Mm)), (1, .int (nI (CN Mm))), (0, .ref (ad (0)))] → ca ≤ 177 + 8 * i → sl ≤ 6 * (177 + 8 * i) → W p l e ({ frames := 11, cells := 260, slots := 1560, locals := 300 } : Room) s m args below meth c H locs ca sl Q (F0 m 349 ls []) := by
  obtain ⟨hx, hb, hml, hown, hts, hK, hKX, hNC, hfl⟩ := id C
  obtain ⟨hI0, hA0⟩ := id ha
  intro r
  induction r with
  | zero =>
    intro i y9 y11 hcn M H locs ls ca sl hir his hlg hC0
    have := hC0.s8
    omega
  | succ r ih =>
    intro i y9 y11 hcn M H locs ls ca sl hir his hlg hC0 hP0 hS hl hca hsl
    refine lv_iload hx hb dL_holds_349 (lv_at hl 0 rfl) ?_
    refine lv_aload_n hx hb dL_holds_351 rfl (lv_at hl 8 rfl) ?_
    refine kVi hx hb hml hown hts hK hP0 hS hA0 (As := []) (rest := [.int (nI i)]) (c_X5_servers l dC dI cA ad hI0 _ ) (mkV hts q_325 q_25 q_322 q_323 q_324 hyX5_servers rfl rfl ⟨(Nat.le_of_ble_eq_true rfl), (Nat.le_of_ble_eq_true rfl)⟩) (w_recv hK hP0 (k := 0) (by decide) lyC0 (q := (RX5, TX5, 10)) rfl) rfl hl.1 rfl (Nat.le_of_ble_eq_true rfl) dL_holds_352 ⟨by show ca ≤ 260; omega, by show sl ≤ 1560; omega⟩ (fun r u H locs hw hP0 hS _ hkp => ?_)
    obtain ⟨er, hC0⟩ := sp_servers hC0 hw
    refine w_eqi er ?_
    refine jI_ge (tgt := 424) hx hb dL_holds_355 (by decide) (fun c355 => ?_) (fun c355 => ?_)
    · have hk : i < sn Mm := nI_lt8 c355 (by have := hC0.s8; omega) (by have := hC0.s8; omega)
      have h8 := hC0.s8
      refine lv_iload_n hx hb dL_holds_358 rfl (lv_at hl 6 rfl) ?_
      refine lv_iload hx hb dL_holds_359 (lv_at hl 0 rfl) ?_
      refine lv_ishr hx hb dL_holds_361 ?_
      refine lv_iconst (v := 1) hx hb dL_holds_362 (by decide) ?_
      refine lv_iand hx hb dL_holds_363 ?_
      refine lv_iconst (v := 1) hx hb dL_holds_364 (by decide) ?_
      refine jI_ne (tgt := 418) hx hb dL_holds_365 (by decide) (fun c365 => ?_) (fun c365 => ?_)
      · refine lv_aload_n hx hb dL_holds_368 rfl (lv_at hl 8 rfl) ?_
        refine lv_iload hx hb dL_holds_369 (lv_at hl 0 rfl) ?_
        refine kWl hx hb hml hown hts hK hP0 hS hKX hNC hA0 (As := [.ref (ad (0)), .int (nI i)]) (rest := []) (c_L_offset l hfl dC dI cA ad hI0 _ (nI i)) (mkSW hts q_520 q_24 q_518 q_519 hyL_offset rfl rfl ⟨(Nat.le_of_ble_eq_true rfl), (Nat.le_of_ble_eq_true rfl)⟩) rfl hl.1 rfl (Nat.le_of_ble_eq_true rfl) dL_holds_371 ⟨by show ca + 2 ≤ 260; omega, by show sl + 12 ≤ 1560; omega⟩ (fun r u H locs hw hP0 hS _ hkp => ?_)
        obtain ⟨er, hC0⟩ := sp_offset hC0 hk hw
        refine w_eql er ?_
        refine lv_lload hx hb dL_holds_374 (lv_at hl 2 rfl) ?_
        refine jL_ge (tgt := 389) hx hb dL_holds_376 dL_holds_377 (by decide) (fun c377 => ?_) (fun c377 => ?_)
        · refine lv_aload_n hx hb dL_holds_380 rfl (lv_at hl 8 rfl) ?_
          refine lv_iload hx hb dL_holds_381 (lv_at hl 0 rfl) ?_
          refine kWl hx hb hml hown hts hK hP0 hS hKX hNC hA0 (As := [.ref (ad (0)), .int (nI i)]) (rest := []) (c_L_offset l hfl dC dI cA ad hI0 _ (nI i)) (mkSW hts q_520 q_24 q_518 q_519 hyL_offset rfl rfl ⟨(Nat.le_of_ble_eq_true rfl), (Nat.le_of_ble_eq_true rfl)⟩) rfl hl.1 rfl (Nat.le_of_ble_eq_true rfl) dL_holds_383 ⟨by show ca + 2 + 2 ≤ 260; omega, by show sl + 12 + 12 ≤ 1560; omega⟩ (fun r u H locs hw hP0 hS _ hkp => ?_)
          obtain ⟨er, hC0⟩ := sp_offset hC0 hk hw
          refine w_eql er ?_
          refine lv_goto (tgt := 391) hx hb dL_holds_386 (by decide) ?_
          refine lv_lstore (lv' := [(9, .long (oA Mm i)), (13, .int (nI i)), (11, .long y11), (7, .long (meA Mm)), (5, .int (nI (SN Mm))), (4, .int (nI (AN Mm))), (3, .int (svS Mm)), (1, .int (nI (CN Mm))), (0, .ref (ad (0)))]) hx hb dL_holds_391 hl (by decide) rfl (fun ls hl => ?_)
          refine lv_aload_n hx hb dL_holds_393 rfl (lv_at hl 8 rfl) ?_
          refine lv_iload hx hb dL_holds_394 (lv_at hl 1 rfl) ?_
          refine kWl hx hb hml hown hts hK hP0 hS hKX hNC hA0 (As := [.ref (ad (0)), .int (nI i)]) (rest := []) (c_L_offset l hfl dC dI cA ad hI0 _ (nI i)) (mkSW hts q_520 q_24 q_518 q_519 hyL_offset rfl rfl ⟨(Nat.le_of_ble_eq_true rfl), (Nat.le_of_ble_eq_true rfl)⟩) rfl hl.1 rfl (Nat.le_of_ble_eq_true rfl) dL_holds_396 ⟨by show ca + 2 + 2 + 2 ≤ 260; omega, by show sl + 12 + 12 + 12 ≤ 1560; omega⟩ (fun r u H locs hw hP0 hS _ hkp => ?_)
          obtain ⟨er, hC0⟩ := sp_offset hC0 hk hw
          refine w_eql er ?_
          refine lv_lload hx hb dL_holds_399 (lv_at hl 2 rfl) ?_
          refine jL_le (tgt := 414) hx hb dL_holds_401 dL_holds_402 (by decide) (fun c402 => ?_) (fun c402 => ?_)
          · refine lv_aload_n hx hb dL_holds_405 rfl (lv_at hl 8 rfl) ?_
            refine lv_iload hx hb dL_holds_406 (lv_at hl 1 rfl) ?_
            refine kWl hx hb hml hown hts hK hP0 hS hKX hNC hA0 (As := [.ref (ad (0)), .int (nI i)]) (rest := []) (c_L_offset l hfl dC dI cA ad hI0 _ (nI i)) (mkSW hts q_520 q_24 q_518 q_519 hyL_offset rfl rfl ⟨(Nat.le_of_ble_eq_true rfl), (Nat.le_of_ble_eq_true rfl)⟩) rfl hl.1 rfl (Nat.le_of_ble_eq_true rfl) dL_holds_408 ⟨by show ca + 2 + 2 + 2 + 2 ≤ 260; omega, by show sl + 12 + 12 + 12 + 12 ≤ 1560; omega⟩ (fun r u H locs hw hP0 hS _ hkp => ?_)
            obtain ⟨er, hC0⟩ := sp_offset hC0 hk hw
            refine w_eql er ?_
            refine lv_goto (tgt := 416) hx hb dL_holds_411 (by decide) ?_
            refine lv_lstore (lv' := [(11, .long (oA Mm i)), (9, .long (oA Mm i)), (13, .int (nI i)), (7, .long (meA Mm)), (5, .int (nI (SN Mm))), (4, .int (nI (AN Mm))), (3, .int (svS Mm)), (1, .int (nI (CN Mm))), (0, .ref (ad (0)))]) hx hb dL_holds_416 hl (by decide) rfl (fun ls hl => ?_)
            refine lv_iinc (v := nI (i + 1)) (lv' := [(13, .int (nI (i + 1))), (11, .long (oA Mm i)), (9, .long (oA Mm i)), (7, .long (meA Mm)), (5, .int (nI (SN Mm))), (4, .int (nI (AN Mm))), (3, .int (svS Mm)), (1, .int (nI (CN Mm))), (0, .ref (ad (0)))]) hx hb dL_holds_418 hl (k := 2) rfl (show nI (i) + 1 = nI (i + 1) from nI_1 _) (by decide) rfl (fun ls hl => ?_)
            refine lv_goto (tgt := 349) hx hb dL_holds_421 (by decide) ?_
            exact ih (i + 1) _ _ hcn _ _ _ _ _ _ (by omega) (by omega) (lg_new hC0 hk hlg ((sv_of hC0 hk).mp c365) (Or.inl ⟨rfl, c377⟩) (Or.inl ⟨rfl, c402⟩)) hC0 hP0 hS (lv_sub hl [0, 1, 2, 3, 4, 5, 6, 7, 8] rfl) (by omega) (by omega)
          · refine lv_lload hx hb dL_holds_414 (lv_at hl 2 rfl) ?_
            refine lv_lstore (lv' := [(11, .long y11), (9, .long (oA Mm i)), (13, .int (nI i)), (7, .long (meA Mm)), (5, .int (nI (SN Mm))), (4, .int (nI (AN Mm))), (3, .int (svS Mm)), (1, .int (nI (CN Mm))), (0, .ref (ad (0)))]) hx hb dL_holds_416 hl (by decide) rfl (fun ls hl => ?_)
            refine lv_iinc (v := nI (i + 1)) (lv' := [(13, .int (nI (i + 1))), (11, .long y11), (9, .long (oA Mm i)), (7, .long (meA Mm)), (5, .int (nI (SN Mm))), (4, .int (nI (AN Mm))), (3, .int (svS Mm)), (1, .int (nI (CN Mm))), (0, .ref (ad (0)))]) hx hb dL_holds_418 hl (k := 2) rfl (show nI (i) + 1 = nI (i + 1) from nI_1 _) (by decide) rfl (fun ls hl => ?_)
            refine lv_goto (tgt := 349) hx hb dL_holds_421 (by decide) ?_
            exact ih (i + 1) _ _ hcn _ _ _ _ _ _ (by omega) (by omega) (lg_new hC0 hk hlg ((sv_of hC0 hk).mp c365) (Or.inl ⟨rfl, c377⟩) (Or.inr ⟨rfl, c402⟩)) hC0 hP0 hS (lv_sub hl [0, 1, 2, 3, 4, 5, 6, 7, 8] rfl) (by omega) (by omega)
        · refine lv_lload hx hb dL_holds_389 (lv_at hl 2 rfl) ?_
          refine lv_lstore (lv' := [(9, .long y9), (13, .int (nI i)), (11, .long y11), (7, .long (meA Mm)), (5, .int (nI (SN Mm))), (4, .int (nI (AN Mm))), (3, .int (svS Mm)), (1, .int (nI (CN Mm))), (0, .ref (ad (0)))]) hx hb dL_holds_391 hl (by decide) rfl (fun ls hl => ?_)
          refine lv_aload_n hx hb dL_holds_393 rfl (lv_at hl 8 rfl) ?_
          refine lv_iload hx hb dL_holds_394 (lv_at hl 1 rfl) ?_
          refine kWl hx hb hml hown hts hK hP0 hS hKX hNC hA0 (As := [.ref (ad (0)), .int (nI i)]) (rest := []) (c_L_offset l hfl dC dI cA ad hI0 _ (nI i)) (mkSW hts q_520 q_24 q_518 q_519 hyL_offset rfl rfl ⟨(Nat.le_of_ble_eq_true rfl), (Nat.le_of_ble_eq_true rfl)⟩) rfl hl.1 rfl (Nat.le_of_ble_eq_true rfl) dL_holds_396 ⟨by show ca + 2 + 2 ≤ 260; omega, by show sl + 12 + 12 ≤ 1560; omega⟩ (fun r u H locs hw hP0 hS _ hkp => ?_)
          obtain ⟨er, hC0⟩ := sp_offset hC0 hk hw
          refine w_eql er ?_
          refine lv_lload hx hb dL_holds_399 (lv_at hl 2 rfl) ?_
          refine jL_le (tgt := 414) hx hb dL_holds_401 dL_holds_402 (by decide) (fun c402 => ?_) (fun c402 => ?_)
          · refine lv_aload_n hx hb dL_holds_405 rfl (lv_at hl 8 rfl) ?_
            refine lv_iload hx hb dL_holds_406 (lv_at hl 1 rfl) ?_
            refine kWl hx hb hml hown hts hK hP0 hS hKX hNC hA0 (As := [.ref (ad (0)), .int (nI i)]) (rest := []) (c_L_offset l hfl dC dI cA ad hI0 _ (nI i)) (mkSW hts q_520 q_24 q_518 q_519 hyL_offset rfl rfl ⟨(Nat.le_of_ble_eq_true rfl), (Nat.le_of_ble_eq_true rfl)⟩) rfl hl.1 rfl (Nat.le_of_ble_eq_true rfl) dL_holds_408 ⟨by show ca + 2 + 2 + 2 ≤ 260; omega, by show sl + 12 + 12 + 12 ≤ 1560; omega⟩ (fun r u H locs hw hP0 hS _ hkp => ?_)
            obtain ⟨er, hC0⟩ := sp_offset hC0 hk hw
            refine w_eql er ?_
            refine lv_goto (tgt := 416) hx hb dL_holds_411 (by decide) ?_
            refine lv_lstore (lv' := [(11, .long (oA Mm i)), (9, .long y9), (13, .int (nI i)), (7, .long (meA Mm)), (5, .int (nI (SN Mm))), (4, .int (nI (AN Mm))), (3, .int (svS Mm)), (1, .int (nI (CN Mm))), (0, .ref (ad (0)))]) hx hb dL_holds_416 hl (by decide) rfl (fun ls hl => ?_)
            refine lv_iinc (v := nI (i + 1)) (lv' := [(13, .int (nI (i + 1))), (11, .long (oA Mm i)), (9, .long y9), (7, .long (meA Mm)), (5, .int (nI (SN Mm))), (4, .int (nI (AN Mm))), (3, .int (svS Mm)), (1, .int (nI (CN Mm))), (0, .ref (ad (0)))]) hx hb dL_holds_418 hl (k := 2) rfl (show nI (i) + 1 = nI (i + 1) from nI_1 _) (by decide) rfl (fun ls hl => ?_)
            refine lv_goto (tgt := 349) hx hb dL_holds_421 (by decide) ?_
            exact ih (i + 1) _ _ hcn _ _ _ _ _ _ (by omega) (by omega) (lg_new hC0 hk hlg ((sv_of hC0 hk).mp c365) (Or.inr ⟨rfl, c377⟩) (Or.inl ⟨rfl, c402⟩)) hC0 hP0 hS (lv_sub hl [0, 1, 2, 3, 4, 5, 6, 7, 8] rfl) (by omega) (by omega)
          · refine lv_lload hx hb dL_holds_414 (lv_at hl 2 rfl) ?_
            refine lv_lstore (lv' := [(11, .long y11), (9, .long y9), (13, .int (nI i)), (7, .long (meA Mm)), (5, .int (nI (SN Mm))), (4, .int (nI (AN Mm))), (3, .int (svS Mm)), (1, .int (nI (CN Mm))), (0, .ref (ad (0)))]) hx hb dL_holds_416 hl (by decide) rfl (fun ls hl => ?_)
            refine lv_iinc (v := nI (i + 1)) (lv' := [(13, .int (nI (i + 1))), (11, .long y11), (9, .long y9), (7, .long (meA Mm)), (5, .int (nI (SN Mm))), (4, .int (nI (AN Mm))), (3, .int (svS Mm)), (1, .int (nI (CN Mm))), (0, .ref (ad (0)))]) hx hb dL_holds_418 hl (k := 2) rfl (show nI (i) + 1 = nI (i + 1) from nI_1 _) (by decide) rfl (fun ls hl => ?_)
            refine lv_goto (tgt := 349) hx hb dL_holds_421 (by decide) ?_
            exact ih (i + 1) _ _ hcn _ _ _ _ _ _ (by omega) (by omega) (lg_new hC0 hk hlg ((sv_of hC0 hk).mp c365) (Or.inr ⟨rfl, c377⟩) (Or.inr ⟨rfl, c402⟩)) hC0 hP0 hS (lv_sub hl [0, 1, 2, 3, 4, 5, 6, 7, 8] rfl) (by omega) (by omega)
      · refine lv_iinc (v := nI (i + 1)) (lv' := [(13, .int (nI (i + 1))), (11, .long y11), (9, .long y9), (7, .long (meA Mm)), (5, .int (nI (SN Mm))), (4, .int (nI (AN Mm))), (3, .int (svS Mm)), (1, .int (nI (CN Mm))), (0, .ref (ad (0)))]) hx hb dL_holds_418 hl (k := 0) rfl (show nI (i) + 1 = nI (i + 1) from nI_1 _) (by decide) rfl (fun ls hl => ?_)
        refine lv_goto (tgt := 349) hx hb dL_holds_421 (by decide) ?_
        exact ih (i + 1) _ _ hcn _ _ _ _ _ _ (by omega) (by omega) (lg_skip hlg (bcf (fun q => c365 ((sv_of hC0 hk).mpr q)))) hC0 hP0 hS (lv_sub hl [0, 1, 2, 3, 4, 5, 6, 7, 8] rfl) (by omega) (by omega)
    · have ei : i = sn Mm := by
        rcases Nat.lt_or_ge i (sn Mm) with q | q
        · exact absurd (nI_lt (a := i) (b := sn Mm) q (by have := hC0.s8; omega)) c355
        · omega
      subst ei
      have h8 := hC0.s8
      exact s_holds_424 C ha  kend _ _ hcn hlg _ _ _ _ _ _  hC0 hP0 hS (lv_sub hl [1, 2, 3, 4, 5, 6, 7, 8] rfl) (by omega) (by omega)
set_option maxHeartbeats 4000000 in
set_option maxRecDepth 100000 in
theorem s_holds_330 {p : Program} {l : Launch} {e : Env} {s : State} {m : MethodId} {args : Array Value} {below : List Frame} {meth : Method} {c : Code} {dC : Nat → ClassId} {dI : Nat → Nat → Nat} {cA : Nat → ClassId} {A : Nat → Prop} {ad : Nat → Nat} {Mm : Mem} {t : Int32}  (C : LK p l s m c args cL_holds 14 dC dI cA A) (ha : CA A ad)  {Q : State → Prop} (kend : ∀ (rpc : Nat), decode cL_holds rpc = .ok (.ireturn, 1) → ∀ (M : Mem) (H : Heap) (locs : List Loc) (ls : Array Slot) (ca sl : Nat), CL Mm t M → va_P (dC, dI) vwCl (wld 69 layC cA ad M) H → va_S A s.heap H locs → ca ≤ 260 → sl ≤ 1560 → W p l e ({ frames := 11, cells := 260, slots := 1560, locals := 300 } : Room) s m args below meth c H locs ca sl Q (F0 m rpc ls [.int 1])) :
    ∀ (hcn : ¬ CN Mm = 0) (M : Mem) (H : Heap) (locs : List Loc) (ls : Array Slot) (ca sl : Nat),  CL Mm t M → va_P (dC, dI) vwCl (wld 69 layC cA ad M) H → va_S A s.heap H locs → lv_has ls 14 [(5, .int (nI (SN Mm))), (4, .int (nI (AN Mm))), (3, .int (svS Mm)), (1, .int (nI (CN Mm))), (0, .ref (ad (0)))] → ca ≤ 176 → sl ≤ 1056 → W p l e ({ frames := 11, cells := 260, slots := 1560, locals := 300 } : Room) s m args below meth c H locs ca sl Q (F0 m 330 ls []) := by
  obtain ⟨hx, hb, hml, hown, hts, hK, hKX, hNC, hfl⟩ := id C
  obtain ⟨hI0, hA0⟩ := id ha
  intro hcn M H locs ls ca sl hC0 hP0 hS hl hca hsl
  refine lv_aload_n hx hb dL_holds_330 rfl (lv_at hl 4 rfl) ?_
  refine kWl hx hb hml hown hts hK hP0 hS hKX hNC hA0 (As := [.ref (ad (0))]) (rest := []) (c_L_combined l hfl dC dI cA ad hI0 _ ) (mkSW hts q_747 q_24 q_745 q_746 hyL_combined rfl rfl ⟨(Nat.le_of_ble_eq_true rfl), (Nat.le_of_ble_eq_true rfl)⟩) rfl hl.1 rfl (Nat.le_of_ble_eq_true rfl) dL_holds_331 ⟨by show ca + 1 ≤ 260; omega, by show sl + 6 ≤ 1560; omega⟩ (fun r u H locs hw hP0 hS _ hkp => ?_)
  obtain ⟨er, hC0⟩ := sp_comb hC0 hw
  refine w_eql er ?_
  refine lv_lstore (lv' := [(7, .long (meA Mm)), (5, .int (nI (SN Mm))), (4, .int (nI (AN Mm))), (3, .int (svS Mm)), (1, .int (nI (CN Mm))), (0, .ref (ad (0)))]) hx hb dL_holds_334 hl (by decide) rfl (fun ls hl => ?_)
  refine lv_ldc2 (v := 9000000000000000) hx hb hown (hts _ q_812) dL_holds_336 ?_
  refine lv_lstore (lv' := [(9, .long (9000000000000000 : Int64)), (7, .long (meA Mm)), (5, .int (nI (SN Mm))), (4, .int (nI (AN Mm))), (3, .int (svS Mm)), (1, .int (nI (CN Mm))), (0, .ref (ad (0)))]) hx hb dL_holds_339 hl (by decide) rfl (fun ls hl => ?_)
  refine lv_ldc2 (v := (-9000000000000000)) hx hb hown (hts _ q_813) dL_holds_341 ?_
  refine lv_lstore (lv' := [(11, .long ((-9000000000000000) : Int64)), (9, .long (9000000000000000 : Int64)), (7, .long (meA Mm)), (5, .int (nI (SN Mm))), (4, .int (nI (AN Mm))), (3, .int (svS Mm)), (1, .int (nI (CN Mm))), (0, .ref (ad (0)))]) hx hb dL_holds_344 hl (by decide) rfl (fun ls hl => ?_)
  refine lv_iconst (v := 0) hx hb dL_holds_346 (by decide) ?_
  refine lv_istore (lv' := [(13, .int (0 : Int32)), (11, .long ((-9000000000000000) : Int64)), (9, .long (9000000000000000 : Int64)), (7, .long (meA Mm)), (5, .int (nI (SN Mm))), (4, .int (nI (AN Mm))), (3, .int (svS Mm)), (1, .int (nI (CN Mm))), (0, .ref (ad (0)))]) hx hb dL_holds_347 hl (by decide) rfl (fun ls hl => ?_)
  exact s_holds_349 C ha  kend 9 0 _ _ hcn _ _ _ _ _ _ (by omega) (by omega) lg_0 hC0 hP0 hS (lv_sub hl [0, 1, 2, 3, 4, 5, 6, 7, 8] rfl) (by omega) (by omega)
set_option maxHeartbeats 4000000 in
set_option maxRecDepth 100000 in
theorem s_holds_287 {p : Program} {l : Launch} {e : Env} {s : State} {m : MethodId} {args : Array Value} {below : List Frame} {meth : Method} {c : Code} {dC : Nat → ClassId} {dI : Nat → Nat → Nat} {cA : Nat → ClassId} {A : Nat → Prop} {ad : Nat → Nat} {Mm : Mem} {t : Int32}  (C : LK p l s m c args cL_holds 14 dC dI cA A) (ha : CA A ad)  {Q : State → Prop} (kend : ∀ (rpc : Nat), decode cL_holds rpc = .ok (.ireturn, 1) → ∀ (M : Mem) (H : Heap) (locs : List Loc) (ls : Array Slot) (ca sl : Nat), CL Mm t M → va_P (dC, dI) vwCl (wld 69 layC cA ad M) H → va_S A s.heap H locs → ca ≤ 260 → sl ≤ 1560 → W p l e ({ frames := 11, cells := 260, slots := 1560, locals := 300 } : Room) s m args below meth c H locs ca sl Q (F0 m rpc ls [.int 1])) :
    ∀  (M : Mem) (H : Heap) (locs : List Loc) (ls : Array Slot) (ca sl : Nat),  CL Mm t M → va_P (dC, dI) vwCl (wld 69 layC cA ad M) H → va_S A s.heap H locs → lv_has ls 14 [(6, .int (1 : Int32)), (5, .int (nI (SN Mm))), (4, .int (nI (AN Mm))), (3, .int (svS Mm)), (2, .int (agS Mm)), (1, .int (nI (CN Mm))), (0, .ref (ad (0)))] → ca ≤ 176 → sl ≤ 1056 → W p l e ({ frames := 11, cells := 260, slots := 1560, locals := 300 } : Room) s m args below meth c H locs ca sl Q (F0 m 287 ls []) := by
  obtain ⟨hx, hb, hml, hown, hts, hK, hKX, hNC, hfl⟩ := id C
  obtain ⟨hI0, hA0⟩ := id ha
  intro M H locs ls ca sl hC0 hP0 hS hl hca hsl
  refine lv_iload hx hb dL_holds_287 (lv_at hl 0 rfl) ?_
  refine j0_eq (tgt := 296) hx hb dL_holds_289 (by decide) (fun ck => absurd ck ((by decide))) (fun _ => ?_)
  refine lv_iload_n hx hb dL_holds_292 rfl (lv_at hl 5 rfl) ?_
  refine j0_ne (tgt := 330) hx hb dL_holds_293 (by decide) (fun c293 => ?_) (fun c293 => ?_)
  · have hz := CN_z c293
    refine lv_iload hx hb dL_holds_296 (lv_at hl 0 rfl) ?_
    refine j0_eq (tgt := 328) hx hb dL_holds_298 (by decide) (fun ck => absurd ck ((by decide))) (fun _ => ?_)
    refine lv_iload_n hx hb dL_holds_301 rfl (lv_at hl 4 rfl) ?_
    refine j0_ne (tgt := 328) hx hb dL_holds_302 (by decide) (fun _ => ?_) (fun ck => absurd (agS_0 hC0 hz) ck)
    refine lv_iload_n hx hb dL_holds_305 rfl (lv_at hl 3 rfl) ?_
    refine j0_ne (tgt := 328) hx hb dL_holds_306 (by decide) (fun _ => ?_) (fun ck => absurd (svS_0 hC0 hz) ck)
    refine lv_aload_n hx hb dL_holds_309 rfl (lv_at hl 6 rfl) ?_
    refine kVi hx hb hml hown hts hK hP0 hS hA0 (As := []) (rest := []) (c_X5_agreement l dC dI cA ad hI0 _ ) (mkV hts q_713 q_25 q_710 q_711 q_712 hyX5_agreement rfl rfl ⟨(Nat.le_of_ble_eq_true rfl), (Nat.le_of_ble_eq_true rfl)⟩) (w_recv hK hP0 (k := 0) (by decide) lyC0 (q := (RX5, TX5, 10)) rfl) rfl hl.1 rfl (Nat.le_of_ble_eq_true rfl) dL_holds_310 ⟨by show ca ≤ 260; omega, by show sl ≤ 1560; omega⟩ (fun r u H locs hw hP0 hS _ hkp => ?_)
    obtain ⟨er, hC0⟩ := sp_agmt hC0 hw
    refine w_eqi er ?_
    refine j0_ne (tgt := 328) hx hb dL_holds_313 (by decide) (fun _ => ?_) (fun ck => absurd ((by rw [none_ag hC0 hz]; rfl)) ck)
    refine lv_aload_n hx hb dL_holds_316 rfl (lv_at hl 6 rfl) ?_
    refine kVi hx hb hml hown hts hK hP0 hS hA0 (As := []) (rest := []) (c_X5_peer l dC dI cA ad hI0 _ ) (mkV hts q_796 q_25 q_793 q_794 q_795 hyX5_peer rfl rfl ⟨(Nat.le_of_ble_eq_true rfl), (Nat.le_of_ble_eq_true rfl)⟩) (w_recv hK hP0 (k := 0) (by decide) lyC0 (q := (RX5, TX5, 10)) rfl) rfl hl.1 rfl (Nat.le_of_ble_eq_true rfl) dL_holds_317 ⟨by show ca ≤ 260; omega, by show sl ≤ 1560; omega⟩ (fun r u H locs hw hP0 hS _ hkp => ?_)
    obtain ⟨er, hC0⟩ := sp_peer hC0 hw
    refine w_eqi er ?_
    refine lv_iconst (v := (-1)) hx hb dL_holds_320 (by decide) ?_
    refine jI_ne (tgt := 328) hx hb dL_holds_321 (by decide) (fun _ => ?_) (fun ck => absurd (peer_no hC0 hz) ck)
    refine lv_iconst (v := 1) hx hb dL_holds_324 (by decide) ?_
    refine lv_goto (tgt := 329) hx hb dL_holds_325 (by decide) ?_
    exact kend 329 dL_holds_329 _ _ _ _ _ _ hC0 hP0 hS (by omega) (by omega)
  · exact s_holds_330 C ha  kend (fun q => c293 (by rw [q]; rfl)) _ _ _ _ _ _  hC0 hP0 hS (lv_sub hl [1, 2, 3, 5, 6] rfl) (by omega) (by omega)
set_option maxHeartbeats 4000000 in
set_option maxRecDepth 100000 in
theorem s_holds_45 {p : Program} {l : Launch} {e : Env} {s : State} {m : MethodId} {args : Array Value} {below : List Frame} {meth : Method} {c : Code} {dC : Nat → ClassId} {dI : Nat → Nat → Nat} {cA : Nat → ClassId} {A : Nat → Prop} {ad : Nat → Nat} {Mm : Mem} {t : Int32}  (C : LK p l s m c args cL_holds 14 dC dI cA A) (ha : CA A ad)  {Q : State → Prop} (kend : ∀ (rpc : Nat), decode cL_holds rpc = .ok (.ireturn, 1) → ∀ (M : Mem) (H : Heap) (locs : List Loc) (ls : Array Slot) (ca sl : Nat), CL Mm t M → va_P (dC, dI) vwCl (wld 69 layC cA ad M) H → va_S A s.heap H locs → ca ≤ 260 → sl ≤ 1560 → W p l e ({ frames := 11, cells := 260, slots := 1560, locals := 300 } : Room) s m args below meth c H locs ca sl Q (F0 m rpc ls [.int 1])) :
    ∀ (r i : Nat) (M : Mem) (H : Heap) (locs : List Loc) (ls : Array Slot) (ca sl : Nat), i + r = 9 → i ≤ sn Mm →  CL Mm t M → va_P (dC, dI) vwCl (wld 69 layC cA ad M) H → va_S A s.heap H locs → lv_has ls 14 [(7, .int (nI i)), (6, .int (1 : Int32)), (5, .int (nI (bc (svF Mm) i))), (4, .int (nI (bc (agF Mm) i))), (3, .int (svS Mm)), (2, .int (agS Mm)), (1, .int (nI (bc (cnd Mm) i))), (0, .ref (ad (0)))] → ca ≤ 22 * i → sl ≤ 6 * (22 * i) → W p l e ({ frames := 11, cells := 260, slots := 1560, locals := 300 } : Room) s m args below meth c H locs ca sl Q (F0 m 45 ls []) := by
  obtain ⟨hx, hb, hml, hown, hts, hK, hKX, hNC, hfl⟩ := id C
  obtain ⟨hI0, hA0⟩ := id ha
  intro r
  induction r with
  | zero =>
    intro i M H locs ls ca sl hir his hC0
    have := hC0.s8
    omega
  | succ r ih =>
    intro i M H locs ls ca sl hir his hC0 hP0 hS hl hca hsl
    refine lv_iload hx hb dL_holds_45 (lv_at hl 0 rfl) ?_
    refine lv_aload_n hx hb dL_holds_47 rfl (lv_at hl 7 rfl) ?_
    refine kVi hx hb hml hown hts hK hP0 hS hA0 (As := []) (rest := [.int (nI i)]) (c_X5_servers l dC dI cA ad hI0 _ ) (mkV hts q_325 q_25 q_322 q_323 q_324 hyX5_servers rfl rfl ⟨(Nat.le_of_ble_eq_true rfl), (Nat.le_of_ble_eq_true rfl)⟩) (w_recv hK hP0 (k := 0) (by decide) lyC0 (q := (RX5, TX5, 10)) rfl) rfl hl.1 rfl (Nat.le_of_ble_eq_true rfl) dL_holds_48 ⟨by show ca ≤ 260; omega, by show sl ≤ 1560; omega⟩ (fun r u H locs hw hP0 hS _ hkp => ?_)
    obtain ⟨er, hC0⟩ := sp_servers hC0 hw
    refine w_eqi er ?_
    refine jI_ge (tgt := 287) hx hb dL_holds_51 (by decide) (fun c51 => ?_) (fun c51 => ?_)
    · have hk : i < sn Mm := nI_lt8 c51 (by have := hC0.s8; omega) (by have := hC0.s8; omega)
      have h8 := hC0.s8
      refine lv_iload hx hb dL_holds_54 (lv_at hl 1 rfl) ?_
      refine j0_eq (tgt := 287) hx hb dL_holds_56 (by decide) (fun ck => absurd ck ((by decide))) (fun _ => ?_)
      refine lv_aload_n hx hb dL_holds_59 rfl (lv_at hl 7 rfl) ?_
      refine lv_iload hx hb dL_holds_60 (lv_at hl 0 rfl) ?_
      refine kWi hx hb hml hown hts hK hP0 hS hKX hNC hA0 (As := [.ref (ad (0)), .int (nI i)]) (rest := []) (c_L_samples l hfl dC dI cA ad hI0 _ (nI i)) (mkSW hts q_509 q_24 q_507 q_508 hyL_samples rfl rfl ⟨(Nat.le_of_ble_eq_true rfl), (Nat.le_of_ble_eq_true rfl)⟩) rfl hl.1 rfl (Nat.le_of_ble_eq_true rfl) dL_holds_62 ⟨by show ca + 1 ≤ 260; omega, by show sl + 6 ≤ 1560; omega⟩ (fun r u H locs hw hP0 hS _ hkp => ?_)
      obtain ⟨er, hC0⟩ := sp_samples hC0 hk hw
      refine w_eqi er ?_
      refine j0_le (tgt := 72) hx hb dL_holds_65 (by decide) (fun c65 => ?_) (fun c65 => ?_)
      · have hg : 0 < kn Mm i := (kn_pos hC0 hk).mp c65
        have hcd := cnd_of hk hg
        refine lv_iconst (v := 1) hx hb dL_holds_68 (by decide) ?_
        refine lv_goto (tgt := 73) hx hb dL_holds_69 (by decide) ?_
        refine lv_istore (lv' := [(8, .int (1 : Int32)), (7, .int (nI i)), (6, .int (1 : Int32)), (5, .int (nI (bc (svF Mm) i))), (4, .int (nI (bc (agF Mm) i))), (3, .int (svS Mm)), (2, .int (agS Mm)), (1, .int (nI (bc (cnd Mm) i))), (0, .ref (ad (0)))]) hx hb dL_holds_73 hl (by decide) rfl (fun ls hl => ?_)
        refine lv_iload_n hx hb dL_holds_75 rfl (lv_at hl 6 rfl) ?_
        refine lv_iload hx hb dL_holds_76 (lv_at hl 1 rfl) ?_
        refine lv_ishr hx hb dL_holds_78 ?_
        refine lv_iconst (v := 1) hx hb dL_holds_79 (by decide) ?_
        refine lv_iand hx hb dL_holds_80 ?_
        refine lv_iconst (v := 1) hx hb dL_holds_81 (by decide) ?_
        refine jI_ne (tgt := 89) hx hb dL_holds_82 (by decide) (fun c82 => ?_) (fun c82 => ?_)
        · have hag := (ag_of hC0 hk).mp c82
          refine lv_iconst (v := 1) hx hb dL_holds_85 (by decide) ?_
          refine lv_goto (tgt := 90) hx hb dL_holds_86 (by decide) ?_
          refine lv_istore (lv' := [(9, .int (1 : Int32)), (8, .int (1 : Int32)), (7, .int (nI i)), (6, .int (1 : Int32)), (5, .int (nI (bc (svF Mm) i))), (4, .int (nI (bc (agF Mm) i))), (3, .int (svS Mm)), (2, .int (agS Mm)), (1, .int (nI (bc (cnd Mm) i))), (0, .ref (ad (0)))]) hx hb dL_holds_90 hl (by decide) rfl (fun ls hl => ?_)
          refine lv_iload_n hx hb dL_holds_92 rfl (lv_at hl 8 rfl) ?_
          refine lv_iload hx hb dL_holds_93 (lv_at hl 1 rfl) ?_
          refine j0_eq (tgt := 102) hx hb dL_holds_95 (by decide) (fun ck => absurd ck ((by decide))) (fun _ => ?_)
          refine lv_iconst (v := 1) hx hb dL_holds_98 (by decide) ?_
          refine lv_goto (tgt := 103) hx hb dL_holds_99 (by decide) ?_
          refine lv_iadd hx hb dL_holds_103 ?_
          refine w_eqi (y := nI (bc (cnd Mm) (i + 1))) (cn_add1 hcd) ?_
          refine lv_istore_n (lv' := [(1, .int (nI (bc (cnd Mm) (i + 1)))), (9, .int (1 : Int32)), (8, .int (1 : Int32)), (7, .int (nI i)), (6, .int (1 : Int32)), (5, .int (nI (bc (svF Mm) i))), (4, .int (nI (bc (agF Mm) i))), (3, .int (svS Mm)), (2, .int (agS Mm)), (0, .ref (ad (0)))]) hx hb dL_holds_104 rfl hl (by decide) rfl (fun ls hl => ?_)
          refine lv_iload hx hb dL_holds_105 (lv_at hl 6 rfl) ?_
          refine lv_iload hx hb dL_holds_107 (lv_at hl 1 rfl) ?_
          refine j0_eq (tgt := 116) hx hb dL_holds_109 (by decide) (fun ck => absurd ck ((by decide))) (fun _ => ?_)
          refine lv_iconst (v := 1) hx hb dL_holds_112 (by decide) ?_
          refine lv_goto (tgt := 117) hx hb dL_holds_113 (by decide) ?_
          refine lv_iadd hx hb dL_holds_117 ?_
          refine w_eqi (y := nI (bc (agF Mm) (i + 1))) (cn_add1 hag) ?_
          refine lv_istore (lv' := [(4, .int (nI (bc (agF Mm) (i + 1)))), (1, .int (nI (bc (cnd Mm) (i + 1)))), (9, .int (1 : Int32)), (8, .int (1 : Int32)), (7, .int (nI i)), (6, .int (1 : Int32)), (5, .int (nI (bc (svF Mm) i))), (3, .int (svS Mm)), (2, .int (agS Mm)), (0, .ref (ad (0)))]) hx hb dL_holds_118 hl (by decide) rfl (fun ls hl => ?_)
          refine lv_iload hx hb dL_holds_120 (lv_at hl 6 rfl) ?_
          refine lv_iload_n hx hb dL_holds_122 rfl (lv_at hl 7 rfl) ?_
          refine lv_iload hx hb dL_holds_123 (lv_at hl 4 rfl) ?_
          refine lv_ishr hx hb dL_holds_125 ?_
          refine lv_iconst (v := 1) hx hb dL_holds_126 (by decide) ?_
          refine lv_iand hx hb dL_holds_127 ?_
          refine lv_iadd hx hb dL_holds_128 ?_
          refine w_eqi (y := nI (bc (svF Mm) (i + 1))) (st_add hC0 hk) ?_
          refine lv_istore (lv' := [(5, .int (nI (bc (svF Mm) (i + 1)))), (4, .int (nI (bc (agF Mm) (i + 1)))), (1, .int (nI (bc (cnd Mm) (i + 1)))), (9, .int (1 : Int32)), (8, .int (1 : Int32)), (7, .int (nI i)), (6, .int (1 : Int32)), (3, .int (svS Mm)), (2, .int (agS Mm)), (0, .ref (ad (0)))]) hx hb dL_holds_129 hl (by decide) rfl (fun ls hl => ?_)
          refine lv_iload hx hb dL_holds_131 (lv_at hl 4 rfl) ?_
          refine j0_eq (tgt := 269) hx hb dL_holds_133 (by decide) (fun ck => absurd ck ((by decide))) (fun _ => ?_)
          refine lv_aload_n hx hb dL_holds_136 rfl (lv_at hl 9 rfl) ?_
          refine lv_iload hx hb dL_holds_137 (lv_at hl 5 rfl) ?_
          refine kWl hx hb hml hown hts hK hP0 hS hKX hNC hA0 (As := [.ref (ad (0)), .int (nI i)]) (rest := []) (c_L_offset l hfl dC dI cA ad hI0 _ (nI i)) (mkSW hts q_520 q_24 q_518 q_519 hyL_offset rfl rfl ⟨(Nat.le_of_ble_eq_true rfl), (Nat.le_of_ble_eq_true rfl)⟩) rfl hl.1 rfl (Nat.le_of_ble_eq_true rfl) dL_holds_139 ⟨by show ca + 1 + 2 ≤ 260; omega, by show sl + 6 + 12 ≤ 1560; omega⟩ (fun r u H locs hw hP0 hS _ hkp => ?_)
          obtain ⟨er, hC0⟩ := sp_offset hC0 hk hw
          refine w_eql er ?_
          refine lv_aload_n hx hb dL_holds_142 rfl (lv_at hl 9 rfl) ?_
          refine lv_iload hx hb dL_holds_143 (lv_at hl 5 rfl) ?_
          refine kWl hx hb hml hown hts hK hP0 hS hKX hNC hA0 (As := [.ref (ad (0)), .int (nI i)]) (rest := [.long (oA Mm i)]) (c_L_distance l hfl dC dI cA ad hI0 _ (nI i)) (mkSW hts q_560 q_24 q_558 q_559 hyL_distance rfl rfl ⟨(Nat.le_of_ble_eq_true rfl), (Nat.le_of_ble_eq_true rfl)⟩) rfl hl.1 rfl (Nat.le_of_ble_eq_true rfl) dL_holds_145 ⟨by show ca + 1 + 2 + 2 ≤ 260; omega, by show sl + 6 + 12 + 12 ≤ 1560; omega⟩ (fun r u H locs hw hP0 hS _ hkp => ?_)
          obtain ⟨er, hC0⟩ := sp_distance hC0 hk hw
          refine w_eql er ?_
          refine lv_lsub hx hb dL_holds_148 ?_
          refine lv_lstore (lv' := [(10, .long ((oA Mm i) - (tA Mm i))), (5, .int (nI (bc (svF Mm) (i + 1)))), (4, .int (nI (bc (agF Mm) (i + 1)))), (1, .int (nI (bc (cnd Mm) (i + 1)))), (9, .int (1 : Int32)), (8, .int (1 : Int32)), (7, .int (nI i)), (6, .int (1 : Int32)), (3, .int (svS Mm)), (2, .int (agS Mm)), (0, .ref (ad (0)))]) hx hb dL_holds_149 hl (by decide) rfl (fun ls hl => ?_)
          refine lv_aload_n hx hb dL_holds_151 rfl (lv_at hl 10 rfl) ?_
          refine lv_iload hx hb dL_holds_152 (lv_at hl 6 rfl) ?_
          refine kWl hx hb hml hown hts hK hP0 hS hKX hNC hA0 (As := [.ref (ad (0)), .int (nI i)]) (rest := []) (c_L_offset l hfl dC dI cA ad hI0 _ (nI i)) (mkSW hts q_520 q_24 q_518 q_519 hyL_offset rfl rfl ⟨(Nat.le_of_ble_eq_true rfl), (Nat.le_of_ble_eq_true rfl)⟩) rfl hl.1 rfl (Nat.le_of_ble_eq_true rfl) dL_holds_154 ⟨by show ca + 1 + 2 + 2 + 2 ≤ 260; omega, by show sl + 6 + 12 + 12 + 12 ≤ 1560; omega⟩ (fun r u H locs hw hP0 hS _ hkp => ?_)
          obtain ⟨er, hC0⟩ := sp_offset hC0 hk hw
          refine w_eql er ?_
          refine lv_aload_n hx hb dL_holds_157 rfl (lv_at hl 10 rfl) ?_
          refine lv_iload hx hb dL_holds_158 (lv_at hl 6 rfl) ?_
          refine kWl hx hb hml hown hts hK hP0 hS hKX hNC hA0 (As := [.ref (ad (0)), .int (nI i)]) (rest := [.long (oA Mm i)]) (c_L_distance l hfl dC dI cA ad hI0 _ (nI i)) (mkSW hts q_560 q_24 q_558 q_559 hyL_distance rfl rfl ⟨(Nat.le_of_ble_eq_true rfl), (Nat.le_of_ble_eq_true rfl)⟩) rfl hl.1 rfl (Nat.le_of_ble_eq_true rfl) dL_holds_160 ⟨by show ca + 1 + 2 + 2 + 2 + 2 ≤ 260; omega, by show sl + 6 + 12 + 12 + 12 + 12 ≤ 1560; omega⟩ (fun r u H locs hw hP0 hS _ hkp => ?_)
          obtain ⟨er, hC0⟩ := sp_distance hC0 hk hw
          refine w_eql er ?_
          refine lv_ladd hx hb dL_holds_163 ?_
          refine lv_lstore (lv' := [(12, .long ((oA Mm i) + (tA Mm i))), (10, .long ((oA Mm i) - (tA Mm i))), (5, .int (nI (bc (svF Mm) (i + 1)))), (4, .int (nI (bc (agF Mm) (i + 1)))), (1, .int (nI (bc (cnd Mm) (i + 1)))), (9, .int (1 : Int32)), (8, .int (1 : Int32)), (7, .int (nI i)), (6, .int (1 : Int32)), (3, .int (svS Mm)), (2, .int (agS Mm)), (0, .ref (ad (0)))]) hx hb dL_holds_164 hl (by decide) rfl (fun ls hl => ?_)
          refine lv_iload hx hb dL_holds_166 (lv_at hl 5 rfl) ?_
          refine lv_lload hx hb dL_holds_168 (lv_at hl 1 rfl) ?_
          refine lv_aload_n hx hb dL_holds_170 rfl (lv_at hl 11 rfl) ?_
          refine kWl hx hb hml hown hts hK hP0 hS hKX hNC hA0 (As := [.ref (ad (0))]) (rest := [.long ((oA Mm i) - (tA Mm i)), .int (1 : Int32)]) (c_L_low l hfl dC dI cA ad hI0 _ ) (mkSW hts q_717 q_24 q_715 q_716 hyL_low rfl rfl ⟨(Nat.le_of_ble_eq_true rfl), (Nat.le_of_ble_eq_true rfl)⟩) rfl hl.1 rfl (Nat.le_of_ble_eq_true rfl) dL_holds_171 ⟨by show ca + 1 + 2 + 2 + 2 + 2 + 1 ≤ 260; omega, by show sl + 6 + 12 + 12 + 12 + 12 + 6 ≤ 1560; omega⟩ (fun r u H locs hw hP0 hS _ hkp => ?_)
          obtain ⟨er, hC0⟩ := sp_low hC0 hw
          refine w_eql er ?_
          refine jL_gt (tgt := 192) hx hb dL_holds_174 dL_holds_175 (by decide) (fun ck => absurd ck ((hl_1 hC0 hk hg hag).1)) (fun _ => ?_)
          refine lv_aload_n hx hb dL_holds_178 rfl (lv_at hl 11 rfl) ?_
          refine kWl hx hb hml hown hts hK hP0 hS hKX hNC hA0 (As := [.ref (ad (0))]) (rest := [.int (1 : Int32)]) (c_L_low l hfl dC dI cA ad hI0 _ ) (mkSW hts q_717 q_24 q_715 q_716 hyL_low rfl rfl ⟨(Nat.le_of_ble_eq_true rfl), (Nat.le_of_ble_eq_true rfl)⟩) rfl hl.1 rfl (Nat.le_of_ble_eq_true rfl) dL_holds_179 ⟨by show ca + 1 + 2 + 2 + 2 + 2 + 1 + 1 ≤ 260; omega, by show sl + 6 + 12 + 12 + 12 + 12 + 6 + 6 ≤ 1560; omega⟩ (fun r u H locs hw hP0 hS _ hkp => ?_)
          obtain ⟨er, hC0⟩ := sp_low hC0 hw
          refine w_eql er ?_
          refine lv_lload hx hb dL_holds_182 (lv_at hl 0 rfl) ?_
          refine jL_gt (tgt := 192) hx hb dL_holds_184 dL_holds_185 (by decide) (fun ck => absurd ck ((hl_1 hC0 hk hg hag).2.1)) (fun _ => ?_)
          refine lv_iconst (v := 1) hx hb dL_holds_188 (by decide) ?_
          refine lv_goto (tgt := 193) hx hb dL_holds_189 (by decide) ?_
          refine jI_ne (tgt := 263) hx hb dL_holds_193 (by decide) (fun _ => ?_) (fun ck => absurd ((by decide)) ck)
          refine lv_iload hx hb dL_holds_196 (lv_at hl 5 rfl) ?_
          refine j0_eq (tgt := 221) hx hb dL_holds_198 (by decide) (fun ck => absurd ck ((by decide))) (fun _ => ?_)
          refine lv_lload hx hb dL_holds_201 (lv_at hl 1 rfl) ?_
          refine lv_aload_n hx hb dL_holds_203 rfl (lv_at hl 11 rfl) ?_
          refine kWl hx hb hml hown hts hK hP0 hS hKX hNC hA0 (As := [.ref (ad (0))]) (rest := [.long ((oA Mm i) - (tA Mm i))]) (c_L_high l hfl dC dI cA ad hI0 _ ) (mkSW hts q_736 q_24 q_734 q_735 hyL_high rfl rfl ⟨(Nat.le_of_ble_eq_true rfl), (Nat.le_of_ble_eq_true rfl)⟩) rfl hl.1 rfl (Nat.le_of_ble_eq_true rfl) dL_holds_204 ⟨by show ca + 1 + 2 + 2 + 2 + 2 + 1 + 1 + 1 ≤ 260; omega, by show sl + 6 + 12 + 12 + 12 + 12 + 6 + 6 + 6 ≤ 1560; omega⟩ (fun r u H locs hw hP0 hS _ hkp => ?_)
          obtain ⟨er, hC0⟩ := sp_high hC0 hw
          refine w_eql er ?_
          refine jL_gt (tgt := 263) hx hb dL_holds_207 dL_holds_208 (by decide) (fun ck => absurd ck ((hl_1 hC0 hk hg hag).2.2.1)) (fun _ => ?_)
          refine lv_aload_n hx hb dL_holds_211 rfl (lv_at hl 11 rfl) ?_
          refine kWl hx hb hml hown hts hK hP0 hS hKX hNC hA0 (As := [.ref (ad (0))]) (rest := []) (c_L_high l hfl dC dI cA ad hI0 _ ) (mkSW hts q_736 q_24 q_734 q_735 hyL_high rfl rfl ⟨(Nat.le_of_ble_eq_true rfl), (Nat.le_of_ble_eq_true rfl)⟩) rfl hl.1 rfl (Nat.le_of_ble_eq_true rfl) dL_holds_212 ⟨by show ca + 1 + 2 + 2 + 2 + 2 + 1 + 1 + 1 + 1 ≤ 260; omega, by show sl + 6 + 12 + 12 + 12 + 12 + 6 + 6 + 6 + 6 ≤ 1560; omega⟩ (fun r u H locs hw hP0 hS _ hkp => ?_)
          obtain ⟨er, hC0⟩ := sp_high hC0 hw
          refine w_eql er ?_
          refine lv_lload hx hb dL_holds_215 (lv_at hl 0 rfl) ?_
          refine jL_gt (tgt := 263) hx hb dL_holds_217 dL_holds_218 (by decide) (fun ck => absurd ck ((hl_1 hC0 hk hg hag).2.2.2)) (fun _ => ?_)
          refine lv_aload_n hx hb dL_holds_221 rfl (lv_at hl 11 rfl) ?_
          refine lv_iload hx hb dL_holds_222 (lv_at hl 7 rfl) ?_
          refine kWl hx hb hml hown hts hK hP0 hS hKX hNC hA0 (As := [.ref (ad (0)), .int (nI i)]) (rest := []) (c_L_delay l hfl dC dI cA ad hI0 _ (nI i)) (mkSW hts q_535 q_24 q_533 q_534 hyL_delay rfl rfl ⟨(Nat.le_of_ble_eq_true rfl), (Nat.le_of_ble_eq_true rfl)⟩) rfl hl.1 rfl (Nat.le_of_ble_eq_true rfl) dL_holds_224 ⟨by show ca + 1 + 2 + 2 + 2 + 2 + 1 + 1 + 1 + 1 + 2 ≤ 260; omega, by show sl + 6 + 12 + 12 + 12 + 12 + 6 + 6 + 6 + 6 + 12 ≤ 1560; omega⟩ (fun r u H locs hw hP0 hS _ hkp => ?_)
          obtain ⟨er, hC0⟩ := sp_delay hC0 hk hw
          refine w_eql er ?_
          refine lv_lconst (v := 0) hx hb dL_holds_227 (by decide) ?_
          refine jL_lt (tgt := 263) hx hb dL_holds_228 dL_holds_229 (by decide) (fun ck => absurd ck ((nn_3 hC0 hk hg).1)) (fun _ => ?_)
          refine lv_aload_n hx hb dL_holds_232 rfl (lv_at hl 11 rfl) ?_
          refine lv_iload hx hb dL_holds_233 (lv_at hl 7 rfl) ?_
          refine kWl hx hb hml hown hts hK hP0 hS hKX hNC hA0 (As := [.ref (ad (0)), .int (nI i)]) (rest := []) (c_L_jitter l hfl dC dI cA ad hI0 _ (nI i)) (mkSW hts q_546 q_24 q_544 q_545 hyL_jitter rfl rfl ⟨(Nat.le_of_ble_eq_true rfl), (Nat.le_of_ble_eq_true rfl)⟩) rfl hl.1 rfl (Nat.le_of_ble_eq_true rfl) dL_holds_235 ⟨by show ca + 1 + 2 + 2 + 2 + 2 + 1 + 1 + 1 + 1 + 2 + 2 ≤ 260; omega, by show sl + 6 + 12 + 12 + 12 + 12 + 6 + 6 + 6 + 6 + 12 + 12 ≤ 1560; omega⟩ (fun r u H locs hw hP0 hS _ hkp => ?_)
          obtain ⟨er, hC0⟩ := sp_jitter hC0 hk hw
          refine w_eql er ?_
          refine lv_lconst (v := 0) hx hb dL_holds_238 (by decide) ?_
          refine jL_lt (tgt := 263) hx hb dL_holds_239 dL_holds_240 (by decide) (fun ck => absurd ck ((nn_3 hC0 hk hg).2.1)) (fun _ => ?_)
          refine lv_aload_n hx hb dL_holds_243 rfl (lv_at hl 11 rfl) ?_
          refine lv_iload hx hb dL_holds_244 (lv_at hl 7 rfl) ?_
          refine kWl hx hb hml hown hts hK hP0 hS hKX hNC hA0 (As := [.ref (ad (0)), .int (nI i)]) (rest := []) (c_L_distance l hfl dC dI cA ad hI0 _ (nI i)) (mkSW hts q_560 q_24 q_558 q_559 hyL_distance rfl rfl ⟨(Nat.le_of_ble_eq_true rfl), (Nat.le_of_ble_eq_true rfl)⟩) rfl hl.1 rfl (Nat.le_of_ble_eq_true rfl) dL_holds_246 ⟨by show ca + 1 + 2 + 2 + 2 + 2 + 1 + 1 + 1 + 1 + 2 + 2 + 2 ≤ 260; omega, by show sl + 6 + 12 + 12 + 12 + 12 + 6 + 6 + 6 + 6 + 12 + 12 + 12 ≤ 1560; omega⟩ (fun r u H locs hw hP0 hS _ hkp => ?_)
          obtain ⟨er, hC0⟩ := sp_distance hC0 hk hw
          refine w_eql er ?_
          refine lv_aload_n hx hb dL_holds_249 rfl (lv_at hl 11 rfl) ?_
          refine lv_iload hx hb dL_holds_250 (lv_at hl 7 rfl) ?_
          refine kWl hx hb hml hown hts hK hP0 hS hKX hNC hA0 (As := [.ref (ad (0)), .int (nI i)]) (rest := [.long (tA Mm i)]) (c_L_jitter l hfl dC dI cA ad hI0 _ (nI i)) (mkSW hts q_546 q_24 q_544 q_545 hyL_jitter rfl rfl ⟨(Nat.le_of_ble_eq_true rfl), (Nat.le_of_ble_eq_true rfl)⟩) rfl hl.1 rfl (Nat.le_of_ble_eq_true rfl) dL_holds_252 ⟨by show ca + 1 + 2 + 2 + 2 + 2 + 1 + 1 + 1 + 1 + 2 + 2 + 2 + 2 ≤ 260; omega, by show sl + 6 + 12 + 12 + 12 + 12 + 6 + 6 + 6 + 6 + 12 + 12 + 12 + 12 ≤ 1560; omega⟩ (fun r u H locs hw hP0 hS _ hkp => ?_)
          obtain ⟨er, hC0⟩ := sp_jitter hC0 hk hw
          refine w_eql er ?_
          refine jL_lt (tgt := 263) hx hb dL_holds_255 dL_holds_256 (by decide) (fun ck => absurd ck ((nn_3 hC0 hk hg).2.2)) (fun _ => ?_)
          refine lv_iconst (v := 1) hx hb dL_holds_259 (by decide) ?_
          refine lv_goto (tgt := 264) hx hb dL_holds_260 (by decide) ?_
          refine lv_istore (lv' := [(6, .int (1 : Int32)), (12, .long ((oA Mm i) + (tA Mm i))), (10, .long ((oA Mm i) - (tA Mm i))), (5, .int (nI (bc (svF Mm) (i + 1)))), (4, .int (nI (bc (agF Mm) (i + 1)))), (1, .int (nI (bc (cnd Mm) (i + 1)))), (9, .int (1 : Int32)), (8, .int (1 : Int32)), (7, .int (nI i)), (3, .int (svS Mm)), (2, .int (agS Mm)), (0, .ref (ad (0)))]) hx hb dL_holds_264 hl (by decide) rfl (fun ls hl => ?_)
          refine lv_goto (tgt := 281) hx hb dL_holds_266 (by decide) ?_
          refine lv_iinc (v := nI (i + 1)) (lv' := [(7, .int (nI (i + 1))), (6, .int (1 : Int32)), (12, .long ((oA Mm i) + (tA Mm i))), (10, .long ((oA Mm i) - (tA Mm i))), (5, .int (nI (bc (svF Mm) (i + 1)))), (4, .int (nI (bc (agF Mm) (i + 1)))), (1, .int (nI (bc (cnd Mm) (i + 1)))), (9, .int (1 : Int32)), (8, .int (1 : Int32)), (3, .int (svS Mm)), (2, .int (agS Mm)), (0, .ref (ad (0)))]) hx hb dL_holds_281 hl (k := 8) rfl (show nI (i) + 1 = nI (i + 1) from nI_1 _) (by decide) rfl (fun ls hl => ?_)
          refine lv_goto (tgt := 45) hx hb dL_holds_284 (by decide) ?_
          exact ih (i + 1) _ _ _ _ _ _ (by omega) (by omega) hC0 hP0 hS (lv_sub hl [0, 1, 4, 5, 9, 10, 6, 11] rfl) (by omega) (by omega)
        · have hag : agF Mm i = false := bcf (fun q => c82 ((ag_of hC0 hk).mpr q))
          refine lv_iconst (v := 0) hx hb dL_holds_89 (by decide) ?_
          refine lv_istore (lv' := [(9, .int (0 : Int32)), (8, .int (1 : Int32)), (7, .int (nI i)), (6, .int (1 : Int32)), (5, .int (nI (bc (svF Mm) i))), (4, .int (nI (bc (agF Mm) i))), (3, .int (svS Mm)), (2, .int (agS Mm)), (1, .int (nI (bc (cnd Mm) i))), (0, .ref (ad (0)))]) hx hb dL_holds_90 hl (by decide) rfl (fun ls hl => ?_)
          refine lv_iload_n hx hb dL_holds_92 rfl (lv_at hl 8 rfl) ?_
          refine lv_iload hx hb dL_holds_93 (lv_at hl 1 rfl) ?_
          refine j0_eq (tgt := 102) hx hb dL_holds_95 (by decide) (fun ck => absurd ck ((by decide))) (fun _ => ?_)
          refine lv_iconst (v := 1) hx hb dL_holds_98 (by decide) ?_
          refine lv_goto (tgt := 103) hx hb dL_holds_99 (by decide) ?_
          refine lv_iadd hx hb dL_holds_103 ?_
          refine w_eqi (y := nI (bc (cnd Mm) (i + 1))) (cn_add1 hcd) ?_
          refine lv_istore_n (lv' := [(1, .int (nI (bc (cnd Mm) (i + 1)))), (9, .int (0 : Int32)), (8, .int (1 : Int32)), (7, .int (nI i)), (6, .int (1 : Int32)), (5, .int (nI (bc (svF Mm) i))), (4, .int (nI (bc (agF Mm) i))), (3, .int (svS Mm)), (2, .int (agS Mm)), (0, .ref (ad (0)))]) hx hb dL_holds_104 rfl hl (by decide) rfl (fun ls hl => ?_)
          refine lv_iload hx hb dL_holds_105 (lv_at hl 6 rfl) ?_
          refine lv_iload hx hb dL_holds_107 (lv_at hl 1 rfl) ?_
          refine j0_eq (tgt := 116) hx hb dL_holds_109 (by decide) (fun _ => ?_) (fun ck => absurd ((by decide)) ck)
          refine lv_iconst (v := 0) hx hb dL_holds_116 (by decide) ?_
          refine lv_iadd hx hb dL_holds_117 ?_
          refine w_eqi (y := nI (bc (agF Mm) (i + 1))) (cn_add0 hag) ?_
          refine lv_istore (lv' := [(4, .int (nI (bc (agF Mm) (i + 1)))), (1, .int (nI (bc (cnd Mm) (i + 1)))), (9, .int (0 : Int32)), (8, .int (1 : Int32)), (7, .int (nI i)), (6, .int (1 : Int32)), (5, .int (nI (bc (svF Mm) i))), (3, .int (svS Mm)), (2, .int (agS Mm)), (0, .ref (ad (0)))]) hx hb dL_holds_118 hl (by decide) rfl (fun ls hl => ?_)
          refine lv_iload hx hb dL_holds_120 (lv_at hl 6 rfl) ?_
          refine lv_iload_n hx hb dL_holds_122 rfl (lv_at hl 7 rfl) ?_
          refine lv_iload hx hb dL_holds_123 (lv_at hl 4 rfl) ?_
          refine lv_ishr hx hb dL_holds_125 ?_
          refine lv_iconst (v := 1) hx hb dL_holds_126 (by decide) ?_
          refine lv_iand hx hb dL_holds_127 ?_
          refine lv_iadd hx hb dL_holds_128 ?_
          refine w_eqi (y := nI (bc (svF Mm) (i + 1))) (st_add hC0 hk) ?_
          refine lv_istore (lv' := [(5, .int (nI (bc (svF Mm) (i + 1)))), (4, .int (nI (bc (agF Mm) (i + 1)))), (1, .int (nI (bc (cnd Mm) (i + 1)))), (9, .int (0 : Int32)), (8, .int (1 : Int32)), (7, .int (nI i)), (6, .int (1 : Int32)), (3, .int (svS Mm)), (2, .int (agS Mm)), (0, .ref (ad (0)))]) hx hb dL_holds_129 hl (by decide) rfl (fun ls hl => ?_)
          refine lv_iload hx hb dL_holds_131 (lv_at hl 4 rfl) ?_
          refine j0_eq (tgt := 269) hx hb dL_holds_133 (by decide) (fun ck => absurd ck ((by decide))) (fun _ => ?_)
          refine lv_aload_n hx hb dL_holds_136 rfl (lv_at hl 9 rfl) ?_
          refine lv_iload hx hb dL_holds_137 (lv_at hl 5 rfl) ?_
          refine kWl hx hb hml hown hts hK hP0 hS hKX hNC hA0 (As := [.ref (ad (0)), .int (nI i)]) (rest := []) (c_L_offset l hfl dC dI cA ad hI0 _ (nI i)) (mkSW hts q_520 q_24 q_518 q_519 hyL_offset rfl rfl ⟨(Nat.le_of_ble_eq_true rfl), (Nat.le_of_ble_eq_true rfl)⟩) rfl hl.1 rfl (Nat.le_of_ble_eq_true rfl) dL_holds_139 ⟨by show ca + 1 + 2 ≤ 260; omega, by show sl + 6 + 12 ≤ 1560; omega⟩ (fun r u H locs hw hP0 hS _ hkp => ?_)
          obtain ⟨er, hC0⟩ := sp_offset hC0 hk hw
          refine w_eql er ?_
          refine lv_aload_n hx hb dL_holds_142 rfl (lv_at hl 9 rfl) ?_
          refine lv_iload hx hb dL_holds_143 (lv_at hl 5 rfl) ?_
          refine kWl hx hb hml hown hts hK hP0 hS hKX hNC hA0 (As := [.ref (ad (0)), .int (nI i)]) (rest := [.long (oA Mm i)]) (c_L_distance l hfl dC dI cA ad hI0 _ (nI i)) (mkSW hts q_560 q_24 q_558 q_559 hyL_distance rfl rfl ⟨(Nat.le_of_ble_eq_true rfl), (Nat.le_of_ble_eq_true rfl)⟩) rfl hl.1 rfl (Nat.le_of_ble_eq_true rfl) dL_holds_145 ⟨by show ca + 1 + 2 + 2 ≤ 260; omega, by show sl + 6 + 12 + 12 ≤ 1560; omega⟩ (fun r u H locs hw hP0 hS _ hkp => ?_)
          obtain ⟨er, hC0⟩ := sp_distance hC0 hk hw
          refine w_eql er ?_
          refine lv_lsub hx hb dL_holds_148 ?_
          refine lv_lstore (lv' := [(10, .long ((oA Mm i) - (tA Mm i))), (5, .int (nI (bc (svF Mm) (i + 1)))), (4, .int (nI (bc (agF Mm) (i + 1)))), (1, .int (nI (bc (cnd Mm) (i + 1)))), (9, .int (0 : Int32)), (8, .int (1 : Int32)), (7, .int (nI i)), (6, .int (1 : Int32)), (3, .int (svS Mm)), (2, .int (agS Mm)), (0, .ref (ad (0)))]) hx hb dL_holds_149 hl (by decide) rfl (fun ls hl => ?_)
          refine lv_aload_n hx hb dL_holds_151 rfl (lv_at hl 10 rfl) ?_
          refine lv_iload hx hb dL_holds_152 (lv_at hl 6 rfl) ?_
          refine kWl hx hb hml hown hts hK hP0 hS hKX hNC hA0 (As := [.ref (ad (0)), .int (nI i)]) (rest := []) (c_L_offset l hfl dC dI cA ad hI0 _ (nI i)) (mkSW hts q_520 q_24 q_518 q_519 hyL_offset rfl rfl ⟨(Nat.le_of_ble_eq_true rfl), (Nat.le_of_ble_eq_true rfl)⟩) rfl hl.1 rfl (Nat.le_of_ble_eq_true rfl) dL_holds_154 ⟨by show ca + 1 + 2 + 2 + 2 ≤ 260; omega, by show sl + 6 + 12 + 12 + 12 ≤ 1560; omega⟩ (fun r u H locs hw hP0 hS _ hkp => ?_)
          obtain ⟨er, hC0⟩ := sp_offset hC0 hk hw
          refine w_eql er ?_
          refine lv_aload_n hx hb dL_holds_157 rfl (lv_at hl 10 rfl) ?_
          refine lv_iload hx hb dL_holds_158 (lv_at hl 6 rfl) ?_
          refine kWl hx hb hml hown hts hK hP0 hS hKX hNC hA0 (As := [.ref (ad (0)), .int (nI i)]) (rest := [.long (oA Mm i)]) (c_L_distance l hfl dC dI cA ad hI0 _ (nI i)) (mkSW hts q_560 q_24 q_558 q_559 hyL_distance rfl rfl ⟨(Nat.le_of_ble_eq_true rfl), (Nat.le_of_ble_eq_true rfl)⟩) rfl hl.1 rfl (Nat.le_of_ble_eq_true rfl) dL_holds_160 ⟨by show ca + 1 + 2 + 2 + 2 + 2 ≤ 260; omega, by show sl + 6 + 12 + 12 + 12 + 12 ≤ 1560; omega⟩ (fun r u H locs hw hP0 hS _ hkp => ?_)
          obtain ⟨er, hC0⟩ := sp_distance hC0 hk hw
          refine w_eql er ?_
          refine lv_ladd hx hb dL_holds_163 ?_
          refine lv_lstore (lv' := [(12, .long ((oA Mm i) + (tA Mm i))), (10, .long ((oA Mm i) - (tA Mm i))), (5, .int (nI (bc (svF Mm) (i + 1)))), (4, .int (nI (bc (agF Mm) (i + 1)))), (1, .int (nI (bc (cnd Mm) (i + 1)))), (9, .int (0 : Int32)), (8, .int (1 : Int32)), (7, .int (nI i)), (6, .int (1 : Int32)), (3, .int (svS Mm)), (2, .int (agS Mm)), (0, .ref (ad (0)))]) hx hb dL_holds_164 hl (by decide) rfl (fun ls hl => ?_)
          refine lv_iload hx hb dL_holds_166 (lv_at hl 5 rfl) ?_
          refine lv_lload hx hb dL_holds_168 (lv_at hl 1 rfl) ?_
          refine lv_aload_n hx hb dL_holds_170 rfl (lv_at hl 11 rfl) ?_
          refine kWl hx hb hml hown hts hK hP0 hS hKX hNC hA0 (As := [.ref (ad (0))]) (rest := [.long ((oA Mm i) - (tA Mm i)), .int (0 : Int32)]) (c_L_low l hfl dC dI cA ad hI0 _ ) (mkSW hts q_717 q_24 q_715 q_716 hyL_low rfl rfl ⟨(Nat.le_of_ble_eq_true rfl), (Nat.le_of_ble_eq_true rfl)⟩) rfl hl.1 rfl (Nat.le_of_ble_eq_true rfl) dL_holds_171 ⟨by show ca + 1 + 2 + 2 + 2 + 2 + 1 ≤ 260; omega, by show sl + 6 + 12 + 12 + 12 + 12 + 6 ≤ 1560; omega⟩ (fun r u H locs hw hP0 hS _ hkp => ?_)
          obtain ⟨er, hC0⟩ := sp_low hC0 hw
          refine w_eql er ?_
          refine jL_gt (tgt := 192) hx hb dL_holds_174 dL_holds_175 (by decide) (fun c175 => ?_) (fun c175 => ?_)
          · refine lv_iconst (v := 0) hx hb dL_holds_192 (by decide) ?_
            refine jI_ne (tgt := 263) hx hb dL_holds_193 (by decide) (fun _ => ?_) (fun ck => absurd ((by decide)) ck)
            refine lv_iload hx hb dL_holds_196 (lv_at hl 5 rfl) ?_
            refine j0_eq (tgt := 221) hx hb dL_holds_198 (by decide) (fun _ => ?_) (fun ck => absurd ((by decide)) ck)
            refine lv_aload_n hx hb dL_holds_221 rfl (lv_at hl 11 rfl) ?_
            refine lv_iload hx hb dL_holds_222 (lv_at hl 7 rfl) ?_
            refine kWl hx hb hml hown hts hK hP0 hS hKX hNC hA0 (As := [.ref (ad (0)), .int (nI i)]) (rest := []) (c_L_delay l hfl dC dI cA ad hI0 _ (nI i)) (mkSW hts q_535 q_24 q_533 q_534 hyL_delay rfl rfl ⟨(Nat.le_of_ble_eq_true rfl), (Nat.le_of_ble_eq_true rfl)⟩) rfl hl.1 rfl (Nat.le_of_ble_eq_true rfl) dL_holds_224 ⟨by show ca + 1 + 2 + 2 + 2 + 2 + 1 + 2 ≤ 260; omega, by show sl + 6 + 12 + 12 + 12 + 12 + 6 + 12 ≤ 1560; omega⟩ (fun r u H locs hw hP0 hS _ hkp => ?_)
            obtain ⟨er, hC0⟩ := sp_delay hC0 hk hw
            refine w_eql er ?_
            refine lv_lconst (v := 0) hx hb dL_holds_227 (by decide) ?_
            refine jL_lt (tgt := 263) hx hb dL_holds_228 dL_holds_229 (by decide) (fun ck => absurd ck ((nn_3 hC0 hk hg).1)) (fun _ => ?_)
            refine lv_aload_n hx hb dL_holds_232 rfl (lv_at hl 11 rfl) ?_
            refine lv_iload hx hb dL_holds_233 (lv_at hl 7 rfl) ?_
            refine kWl hx hb hml hown hts hK hP0 hS hKX hNC hA0 (As := [.ref (ad (0)), .int (nI i)]) (rest := []) (c_L_jitter l hfl dC dI cA ad hI0 _ (nI i)) (mkSW hts q_546 q_24 q_544 q_545 hyL_jitter rfl rfl ⟨(Nat.le_of_ble_eq_true rfl), (Nat.le_of_ble_eq_true rfl)⟩) rfl hl.1 rfl (Nat.le_of_ble_eq_true rfl) dL_holds_235 ⟨by show ca + 1 + 2 + 2 + 2 + 2 + 1 + 2 + 2 ≤ 260; omega, by show sl + 6 + 12 + 12 + 12 + 12 + 6 + 12 + 12 ≤ 1560; omega⟩ (fun r u H locs hw hP0 hS _ hkp => ?_)
            obtain ⟨er, hC0⟩ := sp_jitter hC0 hk hw
            refine w_eql er ?_
            refine lv_lconst (v := 0) hx hb dL_holds_238 (by decide) ?_
            refine jL_lt (tgt := 263) hx hb dL_holds_239 dL_holds_240 (by decide) (fun ck => absurd ck ((nn_3 hC0 hk hg).2.1)) (fun _ => ?_)
            refine lv_aload_n hx hb dL_holds_243 rfl (lv_at hl 11 rfl) ?_
            refine lv_iload hx hb dL_holds_244 (lv_at hl 7 rfl) ?_
            refine kWl hx hb hml hown hts hK hP0 hS hKX hNC hA0 (As := [.ref (ad (0)), .int (nI i)]) (rest := []) (c_L_distance l hfl dC dI cA ad hI0 _ (nI i)) (mkSW hts q_560 q_24 q_558 q_559 hyL_distance rfl rfl ⟨(Nat.le_of_ble_eq_true rfl), (Nat.le_of_ble_eq_true rfl)⟩) rfl hl.1 rfl (Nat.le_of_ble_eq_true rfl) dL_holds_246 ⟨by show ca + 1 + 2 + 2 + 2 + 2 + 1 + 2 + 2 + 2 ≤ 260; omega, by show sl + 6 + 12 + 12 + 12 + 12 + 6 + 12 + 12 + 12 ≤ 1560; omega⟩ (fun r u H locs hw hP0 hS _ hkp => ?_)
            obtain ⟨er, hC0⟩ := sp_distance hC0 hk hw
            refine w_eql er ?_
            refine lv_aload_n hx hb dL_holds_249 rfl (lv_at hl 11 rfl) ?_
            refine lv_iload hx hb dL_holds_250 (lv_at hl 7 rfl) ?_
            refine kWl hx hb hml hown hts hK hP0 hS hKX hNC hA0 (As := [.ref (ad (0)), .int (nI i)]) (rest := [.long (tA Mm i)]) (c_L_jitter l hfl dC dI cA ad hI0 _ (nI i)) (mkSW hts q_546 q_24 q_544 q_545 hyL_jitter rfl rfl ⟨(Nat.le_of_ble_eq_true rfl), (Nat.le_of_ble_eq_true rfl)⟩) rfl hl.1 rfl (Nat.le_of_ble_eq_true rfl) dL_holds_252 ⟨by show ca + 1 + 2 + 2 + 2 + 2 + 1 + 2 + 2 + 2 + 2 ≤ 260; omega, by show sl + 6 + 12 + 12 + 12 + 12 + 6 + 12 + 12 + 12 + 12 ≤ 1560; omega⟩ (fun r u H locs hw hP0 hS _ hkp => ?_)
            obtain ⟨er, hC0⟩ := sp_jitter hC0 hk hw
            refine w_eql er ?_
            refine jL_lt (tgt := 263) hx hb dL_holds_255 dL_holds_256 (by decide) (fun ck => absurd ck ((nn_3 hC0 hk hg).2.2)) (fun _ => ?_)
            refine lv_iconst (v := 1) hx hb dL_holds_259 (by decide) ?_
            refine lv_goto (tgt := 264) hx hb dL_holds_260 (by decide) ?_
            refine lv_istore (lv' := [(6, .int (1 : Int32)), (12, .long ((oA Mm i) + (tA Mm i))), (10, .long ((oA Mm i) - (tA Mm i))), (5, .int (nI (bc (svF Mm) (i + 1)))), (4, .int (nI (bc (agF Mm) (i + 1)))), (1, .int (nI (bc (cnd Mm) (i + 1)))), (9, .int (0 : Int32)), (8, .int (1 : Int32)), (7, .int (nI i)), (3, .int (svS Mm)), (2, .int (agS Mm)), (0, .ref (ad (0)))]) hx hb dL_holds_264 hl (by decide) rfl (fun ls hl => ?_)
            refine lv_goto (tgt := 281) hx hb dL_holds_266 (by decide) ?_
            refine lv_iinc (v := nI (i + 1)) (lv' := [(7, .int (nI (i + 1))), (6, .int (1 : Int32)), (12, .long ((oA Mm i) + (tA Mm i))), (10, .long ((oA Mm i) - (tA Mm i))), (5, .int (nI (bc (svF Mm) (i + 1)))), (4, .int (nI (bc (agF Mm) (i + 1)))), (1, .int (nI (bc (cnd Mm) (i + 1)))), (9, .int (0 : Int32)), (8, .int (1 : Int32)), (3, .int (svS Mm)), (2, .int (agS Mm)), (0, .ref (ad (0)))]) hx hb dL_holds_281 hl (k := 8) rfl (show nI (i) + 1 = nI (i + 1) from nI_1 _) (by decide) rfl (fun ls hl => ?_)
            refine lv_goto (tgt := 45) hx hb dL_holds_284 (by decide) ?_
            exact ih (i + 1) _ _ _ _ _ _ (by omega) (by omega) hC0 hP0 hS (lv_sub hl [0, 1, 4, 5, 9, 10, 6, 11] rfl) (by omega) (by omega)
          · refine lv_aload_n hx hb dL_holds_178 rfl (lv_at hl 11 rfl) ?_
            refine kWl hx hb hml hown hts hK hP0 hS hKX hNC hA0 (As := [.ref (ad (0))]) (rest := [.int (0 : Int32)]) (c_L_low l hfl dC dI cA ad hI0 _ ) (mkSW hts q_717 q_24 q_715 q_716 hyL_low rfl rfl ⟨(Nat.le_of_ble_eq_true rfl), (Nat.le_of_ble_eq_true rfl)⟩) rfl hl.1 rfl (Nat.le_of_ble_eq_true rfl) dL_holds_179 ⟨by show ca + 1 + 2 + 2 + 2 + 2 + 1 + 1 ≤ 260; omega, by show sl + 6 + 12 + 12 + 12 + 12 + 6 + 6 ≤ 1560; omega⟩ (fun r u H locs hw hP0 hS _ hkp => ?_)
            obtain ⟨er, hC0⟩ := sp_low hC0 hw
            refine w_eql er ?_
            refine lv_lload hx hb dL_holds_182 (lv_at hl 0 rfl) ?_
            refine jL_gt (tgt := 192) hx hb dL_holds_184 dL_holds_185 (by decide) (fun _ => ?_) (fun ck => absurd (hl_0 hC0 hk hg hag c175) ck)
            refine lv_iconst (v := 0) hx hb dL_holds_192 (by decide) ?_
            refine jI_ne (tgt := 263) hx hb dL_holds_193 (by decide) (fun _ => ?_) (fun ck => absurd ((by decide)) ck)
            refine lv_iload hx hb dL_holds_196 (lv_at hl 5 rfl) ?_
            refine j0_eq (tgt := 221) hx hb dL_holds_198 (by decide) (fun _ => ?_) (fun ck => absurd ((by decide)) ck)
            refine lv_aload_n hx hb dL_holds_221 rfl (lv_at hl 11 rfl) ?_
            refine lv_iload hx hb dL_holds_222 (lv_at hl 7 rfl) ?_
            refine kWl hx hb hml hown hts hK hP0 hS hKX hNC hA0 (As := [.ref (ad (0)), .int (nI i)]) (rest := []) (c_L_delay l hfl dC dI cA ad hI0 _ (nI i)) (mkSW hts q_535 q_24 q_533 q_534 hyL_delay rfl rfl ⟨(Nat.le_of_ble_eq_true rfl), (Nat.le_of_ble_eq_true rfl)⟩) rfl hl.1 rfl (Nat.le_of_ble_eq_true rfl) dL_holds_224 ⟨by show ca + 1 + 2 + 2 + 2 + 2 + 1 + 1 + 2 ≤ 260; omega, by show sl + 6 + 12 + 12 + 12 + 12 + 6 + 6 + 12 ≤ 1560; omega⟩ (fun r u H locs hw hP0 hS _ hkp => ?_)
            obtain ⟨er, hC0⟩ := sp_delay hC0 hk hw
            refine w_eql er ?_
            refine lv_lconst (v := 0) hx hb dL_holds_227 (by decide) ?_
            refine jL_lt (tgt := 263) hx hb dL_holds_228 dL_holds_229 (by decide) (fun ck => absurd ck ((nn_3 hC0 hk hg).1)) (fun _ => ?_)
            refine lv_aload_n hx hb dL_holds_232 rfl (lv_at hl 11 rfl) ?_
            refine lv_iload hx hb dL_holds_233 (lv_at hl 7 rfl) ?_
            refine kWl hx hb hml hown hts hK hP0 hS hKX hNC hA0 (As := [.ref (ad (0)), .int (nI i)]) (rest := []) (c_L_jitter l hfl dC dI cA ad hI0 _ (nI i)) (mkSW hts q_546 q_24 q_544 q_545 hyL_jitter rfl rfl ⟨(Nat.le_of_ble_eq_true rfl), (Nat.le_of_ble_eq_true rfl)⟩) rfl hl.1 rfl (Nat.le_of_ble_eq_true rfl) dL_holds_235 ⟨by show ca + 1 + 2 + 2 + 2 + 2 + 1 + 1 + 2 + 2 ≤ 260; omega, by show sl + 6 + 12 + 12 + 12 + 12 + 6 + 6 + 12 + 12 ≤ 1560; omega⟩ (fun r u H locs hw hP0 hS _ hkp => ?_)
            obtain ⟨er, hC0⟩ := sp_jitter hC0 hk hw
            refine w_eql er ?_
            refine lv_lconst (v := 0) hx hb dL_holds_238 (by decide) ?_
            refine jL_lt (tgt := 263) hx hb dL_holds_239 dL_holds_240 (by decide) (fun ck => absurd ck ((nn_3 hC0 hk hg).2.1)) (fun _ => ?_)
            refine lv_aload_n hx hb dL_holds_243 rfl (lv_at hl 11 rfl) ?_
            refine lv_iload hx hb dL_holds_244 (lv_at hl 7 rfl) ?_
            refine kWl hx hb hml hown hts hK hP0 hS hKX hNC hA0 (As := [.ref (ad (0)), .int (nI i)]) (rest := []) (c_L_distance l hfl dC dI cA ad hI0 _ (nI i)) (mkSW hts q_560 q_24 q_558 q_559 hyL_distance rfl rfl ⟨(Nat.le_of_ble_eq_true rfl), (Nat.le_of_ble_eq_true rfl)⟩) rfl hl.1 rfl (Nat.le_of_ble_eq_true rfl) dL_holds_246 ⟨by show ca + 1 + 2 + 2 + 2 + 2 + 1 + 1 + 2 + 2 + 2 ≤ 260; omega, by show sl + 6 + 12 + 12 + 12 + 12 + 6 + 6 + 12 + 12 + 12 ≤ 1560; omega⟩ (fun r u H locs hw hP0 hS _ hkp => ?_)
            obtain ⟨er, hC0⟩ := sp_distance hC0 hk hw
            refine w_eql er ?_
            refine lv_aload_n hx hb dL_holds_249 rfl (lv_at hl 11 rfl) ?_
            refine lv_iload hx hb dL_holds_250 (lv_at hl 7 rfl) ?_
            refine kWl hx hb hml hown hts hK hP0 hS hKX hNC hA0 (As := [.ref (ad (0)), .int (nI i)]) (rest := [.long (tA Mm i)]) (c_L_jitter l hfl dC dI cA ad hI0 _ (nI i)) (mkSW hts q_546 q_24 q_544 q_545 hyL_jitter rfl rfl ⟨(Nat.le_of_ble_eq_true rfl), (Nat.le_of_ble_eq_true rfl)⟩) rfl hl.1 rfl (Nat.le_of_ble_eq_true rfl) dL_holds_252 ⟨by show ca + 1 + 2 + 2 + 2 + 2 + 1 + 1 + 2 + 2 + 2 + 2 ≤ 260; omega, by show sl + 6 + 12 + 12 + 12 + 12 + 6 + 6 + 12 + 12 + 12 + 12 ≤ 1560; omega⟩ (fun r u H locs hw hP0 hS _ hkp => ?_)
            obtain ⟨er, hC0⟩ := sp_jitter hC0 hk hw
            refine w_eql er ?_
            refine jL_lt (tgt := 263) hx hb dL_holds_255 dL_holds_256 (by decide) (fun ck => absurd ck ((nn_3 hC0 hk hg).2.2)) (fun _ => ?_)
            refine lv_iconst (v := 1) hx hb dL_holds_259 (by decide) ?_
            refine lv_goto (tgt := 264) hx hb dL_holds_260 (by decide) ?_
            refine lv_istore (lv' := [(6, .int (1 : Int32)), (12, .long ((oA Mm i) + (tA Mm i))), (10, .long ((oA Mm i) - (tA Mm i))), (5, .int (nI (bc (svF Mm) (i + 1)))), (4, .int (nI (bc (agF Mm) (i + 1)))), (1, .int (nI (bc (cnd Mm) (i + 1)))), (9, .int (0 : Int32)), (8, .int (1 : Int32)), (7, .int (nI i)), (3, .int (svS Mm)), (2, .int (agS Mm)), (0, .ref (ad (0)))]) hx hb dL_holds_264 hl (by decide) rfl (fun ls hl => ?_)
            refine lv_goto (tgt := 281) hx hb dL_holds_266 (by decide) ?_
            refine lv_iinc (v := nI (i + 1)) (lv' := [(7, .int (nI (i + 1))), (6, .int (1 : Int32)), (12, .long ((oA Mm i) + (tA Mm i))), (10, .long ((oA Mm i) - (tA Mm i))), (5, .int (nI (bc (svF Mm) (i + 1)))), (4, .int (nI (bc (agF Mm) (i + 1)))), (1, .int (nI (bc (cnd Mm) (i + 1)))), (9, .int (0 : Int32)), (8, .int (1 : Int32)), (3, .int (svS Mm)), (2, .int (agS Mm)), (0, .ref (ad (0)))]) hx hb dL_holds_281 hl (k := 8) rfl (show nI (i) + 1 = nI (i + 1) from nI_1 _) (by decide) rfl (fun ls hl => ?_)
            refine lv_goto (tgt := 45) hx hb dL_holds_284 (by decide) ?_
            exact ih (i + 1) _ _ _ _ _ _ (by omega) (by omega) hC0 hP0 hS (lv_sub hl [0, 1, 4, 5, 9, 10, 6, 11] rfl) (by omega) (by omega)
      · have hg : ¬ 0 < kn Mm i := fun q => c65 ((kn_pos hC0 hk).mpr q)
        have hcd : cnd Mm i = false := cnd_no hg
        refine lv_iconst (v := 0) hx hb dL_holds_72 (by decide) ?_
        refine lv_istore (lv' := [(8, .int (0 : Int32)), (7, .int (nI i)), (6, .int (1 : Int32)), (5, .int (nI (bc (svF Mm) i))), (4, .int (nI (bc (agF Mm) i))), (3, .int (svS Mm)), (2, .int (agS Mm)), (1, .int (nI (bc (cnd Mm) i))), (0, .ref (ad (0)))]) hx hb dL_holds_73 hl (by decide) rfl (fun ls hl => ?_)
        refine lv_iload_n hx hb dL_holds_75 rfl (lv_at hl 6 rfl) ?_
        refine lv_iload hx hb dL_holds_76 (lv_at hl 1 rfl) ?_
        refine lv_ishr hx hb dL_holds_78 ?_
        refine lv_iconst (v := 1) hx hb dL_holds_79 (by decide) ?_
        refine lv_iand hx hb dL_holds_80 ?_
        refine lv_iconst (v := 1) hx hb dL_holds_81 (by decide) ?_
        refine jI_ne (tgt := 89) hx hb dL_holds_82 (by decide) (fun c82 => ?_) (fun c82 => ?_)
        · have hag := (ag_of hC0 hk).mp c82
          exact absurd (ag_cnd hC0 (by omega) hag) (by rw [hcd]; decide)
        · have hag : agF Mm i = false := bcf (fun q => c82 ((ag_of hC0 hk).mpr q))
          refine lv_iconst (v := 0) hx hb dL_holds_89 (by decide) ?_
          refine lv_istore (lv' := [(9, .int (0 : Int32)), (8, .int (0 : Int32)), (7, .int (nI i)), (6, .int (1 : Int32)), (5, .int (nI (bc (svF Mm) i))), (4, .int (nI (bc (agF Mm) i))), (3, .int (svS Mm)), (2, .int (agS Mm)), (1, .int (nI (bc (cnd Mm) i))), (0, .ref (ad (0)))]) hx hb dL_holds_90 hl (by decide) rfl (fun ls hl => ?_)
          refine lv_iload_n hx hb dL_holds_92 rfl (lv_at hl 8 rfl) ?_
          refine lv_iload hx hb dL_holds_93 (lv_at hl 1 rfl) ?_
          refine j0_eq (tgt := 102) hx hb dL_holds_95 (by decide) (fun _ => ?_) (fun ck => absurd ((by decide)) ck)
          refine lv_iconst (v := 0) hx hb dL_holds_102 (by decide) ?_
          refine lv_iadd hx hb dL_holds_103 ?_
          refine w_eqi (y := nI (bc (cnd Mm) (i + 1))) (cn_add0 hcd) ?_
          refine lv_istore_n (lv' := [(1, .int (nI (bc (cnd Mm) (i + 1)))), (9, .int (0 : Int32)), (8, .int (0 : Int32)), (7, .int (nI i)), (6, .int (1 : Int32)), (5, .int (nI (bc (svF Mm) i))), (4, .int (nI (bc (agF Mm) i))), (3, .int (svS Mm)), (2, .int (agS Mm)), (0, .ref (ad (0)))]) hx hb dL_holds_104 rfl hl (by decide) rfl (fun ls hl => ?_)
          refine lv_iload hx hb dL_holds_105 (lv_at hl 6 rfl) ?_
          refine lv_iload hx hb dL_holds_107 (lv_at hl 1 rfl) ?_
          refine j0_eq (tgt := 116) hx hb dL_holds_109 (by decide) (fun _ => ?_) (fun ck => absurd ((by decide)) ck)
          refine lv_iconst (v := 0) hx hb dL_holds_116 (by decide) ?_
          refine lv_iadd hx hb dL_holds_117 ?_
          refine w_eqi (y := nI (bc (agF Mm) (i + 1))) (cn_add0 hag) ?_
          refine lv_istore (lv' := [(4, .int (nI (bc (agF Mm) (i + 1)))), (1, .int (nI (bc (cnd Mm) (i + 1)))), (9, .int (0 : Int32)), (8, .int (0 : Int32)), (7, .int (nI i)), (6, .int (1 : Int32)), (5, .int (nI (bc (svF Mm) i))), (3, .int (svS Mm)), (2, .int (agS Mm)), (0, .ref (ad (0)))]) hx hb dL_holds_118 hl (by decide) rfl (fun ls hl => ?_)
          refine lv_iload hx hb dL_holds_120 (lv_at hl 6 rfl) ?_
          refine lv_iload_n hx hb dL_holds_122 rfl (lv_at hl 7 rfl) ?_
          refine lv_iload hx hb dL_holds_123 (lv_at hl 4 rfl) ?_
          refine lv_ishr hx hb dL_holds_125 ?_
          refine lv_iconst (v := 1) hx hb dL_holds_126 (by decide) ?_
          refine lv_iand hx hb dL_holds_127 ?_
          refine lv_iadd hx hb dL_holds_128 ?_
          refine w_eqi (y := nI (bc (svF Mm) (i + 1))) (st_add hC0 hk) ?_
          refine lv_istore (lv' := [(5, .int (nI (bc (svF Mm) (i + 1)))), (4, .int (nI (bc (agF Mm) (i + 1)))), (1, .int (nI (bc (cnd Mm) (i + 1)))), (9, .int (0 : Int32)), (8, .int (0 : Int32)), (7, .int (nI i)), (6, .int (1 : Int32)), (3, .int (svS Mm)), (2, .int (agS Mm)), (0, .ref (ad (0)))]) hx hb dL_holds_129 hl (by decide) rfl (fun ls hl => ?_)
          refine lv_iload hx hb dL_holds_131 (lv_at hl 4 rfl) ?_
          refine j0_eq (tgt := 269) hx hb dL_holds_133 (by decide) (fun _ => ?_) (fun ck => absurd ((by decide)) ck)
          refine lv_iload hx hb dL_holds_269 (lv_at hl 3 rfl) ?_
          refine j0_ne (tgt := 278) hx hb dL_holds_271 (by decide) (fun _ => ?_) (fun ck => absurd ((by decide)) ck)
          refine lv_iconst (v := 1) hx hb dL_holds_274 (by decide) ?_
          refine lv_goto (tgt := 279) hx hb dL_holds_275 (by decide) ?_
          refine lv_istore (lv' := [(6, .int (1 : Int32)), (5, .int (nI (bc (svF Mm) (i + 1)))), (4, .int (nI (bc (agF Mm) (i + 1)))), (1, .int (nI (bc (cnd Mm) (i + 1)))), (9, .int (0 : Int32)), (8, .int (0 : Int32)), (7, .int (nI i)), (3, .int (svS Mm)), (2, .int (agS Mm)), (0, .ref (ad (0)))]) hx hb dL_holds_279 hl (by decide) rfl (fun ls hl => ?_)
          refine lv_iinc (v := nI (i + 1)) (lv' := [(7, .int (nI (i + 1))), (6, .int (1 : Int32)), (5, .int (nI (bc (svF Mm) (i + 1)))), (4, .int (nI (bc (agF Mm) (i + 1)))), (1, .int (nI (bc (cnd Mm) (i + 1)))), (9, .int (0 : Int32)), (8, .int (0 : Int32)), (3, .int (svS Mm)), (2, .int (agS Mm)), (0, .ref (ad (0)))]) hx hb dL_holds_281 hl (k := 6) rfl (show nI (i) + 1 = nI (i + 1) from nI_1 _) (by decide) rfl (fun ls hl => ?_)
          refine lv_goto (tgt := 45) hx hb dL_holds_284 (by decide) ?_
          exact ih (i + 1) _ _ _ _ _ _ (by omega) (by omega) hC0 hP0 hS (lv_sub hl [0, 1, 2, 3, 7, 8, 4, 9] rfl) (by omega) (by omega)
    · have ei : i = sn Mm := by
        rcases Nat.lt_or_ge i (sn Mm) with q | q
        · exact absurd (nI_lt (a := i) (b := sn Mm) q (by have := hC0.s8; omega)) c51
        · omega
      subst ei
      rw [bcn_c hC0, bcn_a hC0, bcn_s hC0] at hl
      have h8 := hC0.s8
      exact s_holds_287 C ha  kend _ _ _ _ _ _  hC0 hP0 hS (lv_sub hl [1, 2, 3, 4, 5, 6, 7] rfl) (by omega) (by omega)
set_option maxHeartbeats 4000000 in
set_option maxRecDepth 100000 in
theorem s_holds_0 {p : Program} {l : Launch} {e : Env} {s : State} {m : MethodId} {args : Array Value} {below : List Frame} {meth : Method} {c : Code} {dC : Nat → ClassId} {dI : Nat → Nat → Nat} {cA : Nat → ClassId} {A : Nat → Prop} {ad : Nat → Nat} {Mm : Mem} {t : Int32}  (C : LK p l s m c args cL_holds 14 dC dI cA A) (ha : CA A ad)  {Q : State → Prop} (kend : ∀ (rpc : Nat), decode cL_holds rpc = .ok (.ireturn, 1) → ∀ (M : Mem) (H : Heap) (locs : List Loc) (ls : Array Slot) (ca sl : Nat), CL Mm t M → va_P (dC, dI) vwCl (wld 69 layC cA ad M) H → va_S A s.heap H locs → ca ≤ 260 → sl ≤ 1560 → W p l e ({ frames := 11, cells := 260, slots := 1560, locals := 300 } : Room) s m args below meth c H locs ca sl Q (F0 m rpc ls [.int 1])) :
    ∀  (M : Mem) (H : Heap) (locs : List Loc) (ls : Array Slot) (ca sl : Nat),  CL Mm t M → va_P (dC, dI) vwCl (wld 69 layC cA ad M) H → va_S A s.heap H locs → lv_has ls 14 [(0, .ref (ad (0)))] → ca ≤ 0 → sl ≤ 0 → W p l e ({ frames := 11, cells := 260, slots := 1560, locals := 300 } : Room) s m args below meth c H locs ca sl Q (F0 m 0 ls []) := by
  obtain ⟨hx, hb, hml, hown, hts, hK, hKX, hNC, hfl⟩ := id C
  obtain ⟨hI0, hA0⟩ := id ha
  intro M H locs ls ca sl hC0 hP0 hS hl hca hsl
  refine lv_iconst (v := 0) hx hb dL_holds_0 (by decide) ?_
  refine lv_istore_n (lv' := [(1, .int (0 : Int32)), (0, .ref (ad (0)))]) hx hb dL_holds_1 rfl hl (by decide) rfl (fun ls hl => ?_)
  refine lv_aload_n hx hb dL_holds_2 rfl (lv_at hl 1 rfl) ?_
  refine kVi hx hb hml hown hts hK hP0 hS hA0 (As := []) (rest := []) (c_X5_agreeing l dC dI cA ad hI0 _ ) (mkV hts q_780 q_25 q_777 q_778 q_779 hyX5_agreeing rfl rfl ⟨(Nat.le_of_ble_eq_true rfl), (Nat.le_of_ble_eq_true rfl)⟩) (w_recv hK hP0 (k := 0) (by decide) lyC0 (q := (RX5, TX5, 10)) rfl) rfl hl.1 rfl (Nat.le_of_ble_eq_true rfl) dL_holds_3 ⟨by show ca ≤ 260; omega, by show sl ≤ 1560; omega⟩ (fun r u H locs hw hP0 hS _ hkp => ?_)
  obtain ⟨er, hC0⟩ := sp_agreeing hC0 hw
  refine w_eqi er ?_
  refine lv_istore_n (lv' := [(2, .int (agS Mm)), (1, .int (0 : Int32)), (0, .ref (ad (0)))]) hx hb dL_holds_6 rfl hl (by decide) rfl (fun ls hl => ?_)
  refine lv_aload_n hx hb dL_holds_7 rfl (lv_at hl 2 rfl) ?_
  refine kVi hx hb hml hown hts hK hP0 hS hA0 (As := []) (rest := []) (c_X5_survivors l dC dI cA ad hI0 _ ) (mkV hts q_788 q_25 q_785 q_786 q_787 hyX5_survivors rfl rfl ⟨(Nat.le_of_ble_eq_true rfl), (Nat.le_of_ble_eq_true rfl)⟩) (w_recv hK hP0 (k := 0) (by decide) lyC0 (q := (RX5, TX5, 10)) rfl) rfl hl.1 rfl (Nat.le_of_ble_eq_true rfl) dL_holds_8 ⟨by show ca ≤ 260; omega, by show sl ≤ 1560; omega⟩ (fun r u H locs hw hP0 hS _ hkp => ?_)
  obtain ⟨er, hC0⟩ := sp_surv hC0 hw
  refine w_eqi er ?_
  refine lv_istore_n (lv' := [(3, .int (svS Mm)), (2, .int (agS Mm)), (1, .int (0 : Int32)), (0, .ref (ad (0)))]) hx hb dL_holds_11 rfl hl (by decide) rfl (fun ls hl => ?_)
  refine lv_iconst (v := 0) hx hb dL_holds_12 (by decide) ?_
  refine lv_istore (lv' := [(4, .int (0 : Int32)), (3, .int (svS Mm)), (2, .int (agS Mm)), (1, .int (0 : Int32)), (0, .ref (ad (0)))]) hx hb dL_holds_13 hl (by decide) rfl (fun ls hl => ?_)
  refine lv_iconst (v := 0) hx hb dL_holds_15 (by decide) ?_
  refine lv_istore (lv' := [(5, .int (0 : Int32)), (4, .int (0 : Int32)), (3, .int (svS Mm)), (2, .int (agS Mm)), (1, .int (0 : Int32)), (0, .ref (ad (0)))]) hx hb dL_holds_16 hl (by decide) rfl (fun ls hl => ?_)
  refine lv_iload_n hx hb dL_holds_18 rfl (lv_at hl 2 rfl) ?_
  refine lv_iload_n hx hb dL_holds_19 rfl (lv_at hl 3 rfl) ?_
  refine lv_iconst (v := (-1)) hx hb dL_holds_20 (by decide) ?_
  refine lv_ixor hx hb dL_holds_21 ?_
  refine lv_iand hx hb dL_holds_22 ?_
  refine j0_ne (tgt := 39) hx hb dL_holds_23 (by decide) (fun _ => ?_) (fun ck => absurd (sub_0 hC0) ck)
  refine lv_iload_n hx hb dL_holds_26 rfl (lv_at hl 3 rfl) ?_
  refine lv_aload_n hx hb dL_holds_27 rfl (lv_at hl 5 rfl) ?_
  refine kVi hx hb hml hown hts hK hP0 hS hA0 (As := []) (rest := [.int (agS Mm)]) (c_X5_servers l dC dI cA ad hI0 _ ) (mkV hts q_325 q_25 q_322 q_323 q_324 hyX5_servers rfl rfl ⟨(Nat.le_of_ble_eq_true rfl), (Nat.le_of_ble_eq_true rfl)⟩) (w_recv hK hP0 (k := 0) (by decide) lyC0 (q := (RX5, TX5, 10)) rfl) rfl hl.1 rfl (Nat.le_of_ble_eq_true rfl) dL_holds_28 ⟨by show ca ≤ 260; omega, by show sl ≤ 1560; omega⟩ (fun r u H locs hw hP0 hS _ hkp => ?_)
  obtain ⟨er, hC0⟩ := sp_servers hC0 hw
  refine w_eqi er ?_
  refine lv_ishr hx hb dL_holds_31 ?_
  refine j0_ne (tgt := 39) hx hb dL_holds_32 (by decide) (fun _ => ?_) (fun ck => absurd (shr_0 hC0) ck)
  refine lv_iconst (v := 1) hx hb dL_holds_35 (by decide) ?_
  refine lv_goto (tgt := 40) hx hb dL_holds_36 (by decide) ?_
  refine lv_istore (lv' := [(6, .int (1 : Int32)), (5, .int (0 : Int32)), (4, .int (0 : Int32)), (3, .int (svS Mm)), (2, .int (agS Mm)), (1, .int (0 : Int32)), (0, .ref (ad (0)))]) hx hb dL_holds_40 hl (by decide) rfl (fun ls hl => ?_)
  refine lv_iconst (v := 0) hx hb dL_holds_42 (by decide) ?_
  refine lv_istore (lv' := [(7, .int (0 : Int32)), (6, .int (1 : Int32)), (5, .int (0 : Int32)), (4, .int (0 : Int32)), (3, .int (svS Mm)), (2, .int (agS Mm)), (1, .int (0 : Int32)), (0, .ref (ad (0)))]) hx hb dL_holds_43 hl (by decide) rfl (fun ls hl => ?_)
  exact s_holds_45 C ha  kend 9 0 _ _ _ _ _ _ (by omega) (by omega) hC0 hP0 hS (lv_sub hl [0, 1, 2, 3, 4, 5, 6, 7] rfl) (by omega) (by omega)
theorem hyL_holds : yL_holds.cls ≠ "java/lang/invoke/MethodHandle" ∧ yL_holds.cls ≠ "java/lang/invoke/VarHandle" ∧ (parseMethodDescriptor yL_holds.desc).map (fun d => d.parameters.length) = some 1 := by decide +kernel
set_option maxHeartbeats 4000000 in
set_option maxRecDepth 100000 in
theorem c_L_holds (l : Launch) (hfl : l.stackTraces = false) (dC : Nat → ClassId) (dI : Nat → Nat → Nat) (cA : Nat → ClassId) (ad : Nat → Nat) (hI : Inj 69 ad) {M Mm : Mem} {t : Int32} (hC : CL Mm t M) : Met l yL_holds (.code yL_holds cL_holds 14 (some .boolean) :: AG) ({ frames := 11, cells := 260, slots := 1560, locals := 300 } : Room) (va_Pc [.ref (ad (0))] (PWz dC dI cA ad M)) (va_Qi (fun r u => r = 1 ∧ CL Mm t u) (PC dC dI cA ad) (adS 69 ad)) 260 1560 (adS 69 ad) := by
  refine yMet (by decide) (Nat.le_of_ble_eq_true rfl) ?_
  intro p e s m below meth c ls hx hb hr hml hlocks hown hts hK hP hS hl hKX hNC
  exact s_holds_0 ⟨hx, hb, hml, hown, hts, hK, hKX, hNC, hfl⟩ ⟨hI, fun _ h => h⟩  (fun rpc hd M H locs ls ca sl hC1 hP1 hS1 hca hsl => W.widen hca hsl (W.zret hx hb hr (v := 1) rfl (fun t ht hW => ⟨⟨1, M, rfl, ⟨rfl, hC1⟩, by rw [ht]; exact hP1, va_K.moved hW.alike hK⟩, hS1.F ht⟩) hS1.2.2 hd)) M _ _ _ 0 0 hC hP hS hl (by omega) (by omega)
