def adC (h0 o lp rm se : Nat) (us : Nat → Nat) (a : Nat → Nat → Nat) : Nat → Nat := fun k => if k < 5 then [h0, o, lp, rm, se].getD k 0 else if k < 13 then a (k - 5) 0 else if k < 41 then (if k - 13 < 4 then us (k - 13) else a ((k - 17) / 3) (1 + (k - 17) % 3)) else (if k - 41 < 4 then us (4 + (k - 41)) else a ((k - 45) / 3) (4 + (k - 45) % 3))
def X13 (cA : Nat → ClassId) (h0 o lp rm se : Nat) (us : Nat → Nat) (f : Nat → Option Nat) : va_W := [(h0, .inr (5, [.ref o, .ref lp, .ref rm, .ref se, .int 0, .long 0, .int 0, .int 0, .int 0, .long 0])), (o, .inr (1, [.long 0, .long 0, .int 0, .int 0])), (lp, .inr (0, [.int 0, .int 0])), (rm, .inl (cA 3, 8, .inr (.inr (.inr (.inr f))))), (se, .inr (3, [.ref (us 0), .ref (us 1), .ref (us 2), .ref (us 3), .int 0, .int 0, .int 0, .long 0, .long 0])), (us 0, .inr (2, [.ref (us 4)])), (us 1, .inr (2, [.ref (us 5)])), (us 2, .inr (2, [.ref (us 6)])), (us 3, .inr (2, [.ref (us 7)])), (us 4, .inl (cA 1, 8, .inr (.inl (fun _ => 0)))), (us 5, .inl (cA 1, 8, .inr (.inl (fun _ => 0)))), (us 6, .inl (cA 1, 8, .inr (.inl (fun _ => 0)))), (us 7, .inl (cA 1, 8, .inr (.inl (fun _ => 0))))]
set_option maxRecDepth 100000 in
set_option maxHeartbeats 4000000 in
theorem made69 {cA : Nat → ClassId} {h0 o lp rm se : Nat} {us : Nat → Nat} {a : Nat → Nat → Nat} {k : Nat} (hk : k < 69) : (X13 cA h0 o lp rm se us (fun j => some (adC h0 o lp rm se us a (5 + j))) ++ SVs cA a 8)[([0, 1, 2, 3, 4, 13, 20, 27, 34, 41, 48, 55, 62, 5, 6, 7, 8, 14, 15, 16, 21, 22, 23, 28, 29, 30, 35, 36, 37, 42, 43, 44, 49, 50, 51, 56, 57, 58, 63, 64, 65, 9, 10, 11, 12, 17, 18, 19, 24, 25, 26, 31, 32, 33, 38, 39, 40, 45, 46, 47, 52, 53, 54, 59, 60, 61, 66, 67, 68] : List Nat).getD k 0]? = some (adC h0 o lp rm se us a k, cel cA (adC h0 o lp rm se us a) M0c (layC k)) := by
  match k, hk with
  | 0, _ => rfl
  | 1, _ => rfl
  | 2, _ => rfl
  | 3, _ => rfl
  | 4, _ => rfl
  | 5, _ => rfl
  | 6, _ => rfl
  | 7, _ => rfl
  | 8, _ => rfl
  | 9, _ => rfl
  | 10, _ => rfl
  | 11, _ => rfl
  | 12, _ => rfl
  | 13, _ => rfl
  | 14, _ => rfl
  | 15, _ => rfl
  | 16, _ => rfl
  | 17, _ => rfl
  | 18, _ => rfl
  | 19, _ => rfl
  | 20, _ => rfl
  | 21, _ => rfl
  | 22, _ => rfl
  | 23, _ => rfl
  | 24, _ => rfl
  | 25, _ => rfl
  | 26, _ => rfl
  | 27, _ => rfl
  | 28, _ => rfl
  | 29, _ => rfl
  | 30, _ => rfl
  | 31, _ => rfl
  | 32, _ => rfl
  | 33, _ => rfl
  | 34, _ => rfl
  | 35, _ => rfl
  | 36, _ => rfl
  | 37, _ => rfl
  | 38, _ => rfl
  | 39, _ => rfl
  | 40, _ => rfl
  | 41, _ => rfl
  | 42, _ => rfl
  | 43, _ => rfl
  | 44, _ => rfl
  | 45, _ => rfl
  | 46, _ => rfl
  | 47, _ => rfl
  | 48, _ => rfl
  | 49, _ => rfl
  | 50, _ => rfl
  | 51, _ => rfl
  | 52, _ => rfl
  | 53, _ => rfl
  | 54, _ => rfl
  | 55, _ => rfl
  | 56, _ => rfl
  | 57, _ => rfl
  | 58, _ => rfl
  | 59, _ => rfl
  | 60, _ => rfl
  | 61, _ => rfl
  | 62, _ => rfl
  | 63, _ => rfl
  | 64, _ => rfl
  | 65, _ => rfl
  | 66, _ => rfl
  | 67, _ => rfl
  | 68, _ => rfl
  | k + 69, h => exact absurd h (by omega)
set_option maxRecDepth 100000 in
theorem pos69 : ∀ i, i < 69 → ∀ j, j < 69 → ([0, 1, 2, 3, 4, 13, 20, 27, 34, 41, 48, 55, 62, 5, 6, 7, 8, 14, 15, 16, 21, 22, 23, 28, 29, 30, 35, 36, 37, 42, 43, 44, 49, 50, 51, 56, 57, 58, 63, 64, 65, 9, 10, 11, 12, 17, 18, 19, 24, 25, 26, 31, 32, 33, 38, 39, 40, 45, 46, 47, 52, 53, 54, 59, 60, 61, 66, 67, 68] : List Nat).getD i 0 = ([0, 1, 2, 3, 4, 13, 20, 27, 34, 41, 48, 55, 62, 5, 6, 7, 8, 14, 15, 16, 21, 22, 23, 28, 29, 30, 35, 36, 37, 42, 43, 44, 49, 50, 51, 56, 57, 58, 63, 64, 65, 9, 10, 11, 12, 17, 18, 19, 24, 25, 26, 31, 32, 33, 38, 39, 40, 45, 46, 47, 52, 53, 54, 59, 60, 61, 66, 67, 68] : List Nat).getD j 0 → i = j := by decide +kernel
theorem hyX5_init : yX5_init.cls ≠ "java/lang/invoke/MethodHandle" ∧ yX5_init.cls ≠ "java/lang/invoke/VarHandle" ∧ (parseMethodDescriptor yX5_init.desc).map (fun d => d.parameters.length) = some 0 := by decide +kernel
set_option maxHeartbeats 4000000 in
set_option maxRecDepth 100000 in
theorem c_X5_init (l : Launch) (dC : Nat → ClassId) (dI : Nat → Nat → Nat) (cA : Nat → ClassId) (h0 sz : Nat) : Met l yX5_init (.code yX5_init cX5_init 2 none :: AG) ({ frames := 3, cells := 68, slots := 347, locals := 80 } : Room) (NP dC dI cA [(h0, .inr (5, [.null, .null, .null, .null, .int 0, .long 0, .int 0, .int 0, .int 0, .long 0]))] [.ref h0] sz) (NQ dC dI cA (fun u : Nat → Nat => wld 69 layC cA (ad0 h0 u) (f_X5_begin M0c 0)) [(h0, .inr (5, [.null, .null, .null, .null, .int 0, .long 0, .int 0, .int 0, .int 0, .long 0]))] sz) 68 347 (va_A [(h0, .inr (5, [.null, .null, .null, .null, .int 0, .long 0, .int 0, .int 0, .int 0, .long 0]))] sz) := by
  refine nMet (by decide) rfl (Nat.le_of_ble_eq_true rfl) ?_
  intro p e s m below meth c ls A hx hb hr hml hlocks hin hown hts hK hP hD hS hA hNG hl hend hfree
  have hl : lv_has ls 2 [(0, .ref h0)] := hl
  refine lv_aload_n hx hb dX5_init_0 rfl (lv_at hl 0 rfl) ?_
  refine W.objInit hx hb hown (hts _ q_67) (hts _ q_68) (hts _ q_69) rfl (by rw [hml]; exact hl.1) rfl dX5_init_1 (Nat.le_of_ble_eq_true rfl) (Nat.le_of_ble_eq_true rfl) ?_
  refine W.eq (g2 := F0 m 4 ls []) rfl ?_
  refine lv_aload_n hx hb dX5_init_4 rfl (lv_at hl 0 rfl) ?_
  refine n_newN (S := Unit) (C := RX1) (host := "Clockhouse") (ci := 1) (fs := [.long 0, .long 0, .int 0, .int 0]) (ws := [(h0, .inr (5, [.null, .null, .null, .null, .int 0, .long 0, .int 0, .int 0, .int 0, .long 0]))]) (w1 := fun q (_ : Unit) => [(q, .inr (1, [.long 0, .long 0, .int 0, .int 0]))]) hx hb hml hts in_X1 tyX1 tyX1_ok hown q_70 q_71 q_48 hK hP hD hS hA hNG rfl (by decide) (fun q sz => c_X1_init l dC dI cA q sz) q_74 rfl rfl (show Cond.methodLinkNest RX5 9 yX1_init "Clockhouse" ∈ NGx from List.mem_filter.mpr ⟨by decide +kernel, rfl⟩) q_73 hyX1_init rfl rfl ⟨(Nat.le_of_ble_eq_true rfl), (Nat.le_of_ble_eq_true rfl)⟩ hl.1 (Nat.le_of_ble_eq_true rfl) dX5_init_5 dX5_init_8 dX5_init_9 (Nat.le_of_ble_eq_true rfl) (Nat.le_of_ble_eq_true rfl) (fun o _ H locs hP hD hS => ?_)
  have hP : va_P (dC, dI) vwCl [(h0, .inr (5, [.null, .null, .null, .null, .int 0, .long 0, .int 0, .int 0, .int 0, .long 0])), (o, .inr (1, [.long 0, .long 0, .int 0, .int 0]))] H := hP
  have hD : va_D A [(h0, .inr (5, [.null, .null, .null, .null, .int 0, .long 0, .int 0, .int 0, .int 0, .long 0])), (o, .inr (1, [.long 0, .long 0, .int 0, .int 0]))] := hD
  refine va_putF (D := (dC, dI)) (ci := 5) (v := .ref o) (ty := .object "Clockhouse$Oscillator") (C := RX5) (T := TX5) (N := 10) hx hb hts in_X5 tyX5 tyX5_ok nmX5 hown hK hP hD hS 0 rfl rfl 0 (by decide) (hts _ q_197) (fun _ h9 => h9) rfl hin rfl (by decide +kernel) rfl rfl (Nat.le_of_ble_eq_true rfl) dX5_init_12 (fun H locs hP hD hS => ?_)
  have hP : va_P (dC, dI) vwCl [(h0, .inr (5, [.ref o, .null, .null, .null, .int 0, .long 0, .int 0, .int 0, .int 0, .long 0])), (o, .inr (1, [.long 0, .long 0, .int 0, .int 0]))] H := hP
  have hD : va_D A [(h0, .inr (5, [.ref o, .null, .null, .null, .int 0, .long 0, .int 0, .int 0, .int 0, .long 0])), (o, .inr (1, [.long 0, .long 0, .int 0, .int 0]))] := hD
  refine lv_aload_n hx hb dX5_init_15 rfl (lv_at hl 0 rfl) ?_
  refine n_newN (S := Unit) (C := RX0) (host := "Clockhouse") (ci := 0) (fs := [.int 0, .int 0]) (ws := [(h0, .inr (5, [.ref o, .null, .null, .null, .int 0, .long 0, .int 0, .int 0, .int 0, .long 0])), (o, .inr (1, [.long 0, .long 0, .int 0, .int 0]))]) (w1 := fun q (_ : Unit) => [(q, .inr (0, [.int 0, .int 0]))]) hx hb hml hts in_X0 tyX0 tyX0_ok hown q_89 q_90 q_49 hK hP hD hS hA hNG rfl (by decide) (fun q sz => c_X0_init l dC dI cA q sz) q_93 rfl rfl (show Cond.methodLinkNest RX5 18 yX0_init "Clockhouse" ∈ NGx from List.mem_filter.mpr ⟨by decide +kernel, rfl⟩) q_92 hyX0_init rfl rfl ⟨(Nat.le_of_ble_eq_true rfl), (Nat.le_of_ble_eq_true rfl)⟩ hl.1 (Nat.le_of_ble_eq_true rfl) dX5_init_16 dX5_init_19 dX5_init_20 (Nat.le_of_ble_eq_true rfl) (Nat.le_of_ble_eq_true rfl) (fun lp _ H locs hP hD hS => ?_)
  have hP : va_P (dC, dI) vwCl [(h0, .inr (5, [.ref o, .null, .null, .null, .int 0, .long 0, .int 0, .int 0, .int 0, .long 0])), (o, .inr (1, [.long 0, .long 0, .int 0, .int 0])), (lp, .inr (0, [.int 0, .int 0]))] H := hP
  have hD : va_D A [(h0, .inr (5, [.ref o, .null, .null, .null, .int 0, .long 0, .int 0, .int 0, .int 0, .long 0])), (o, .inr (1, [.long 0, .long 0, .int 0, .int 0])), (lp, .inr (0, [.int 0, .int 0]))] := hD
  refine va_putF (D := (dC, dI)) (ci := 5) (v := .ref lp) (ty := .object "Clockhouse$LeapSeconds") (C := RX5) (T := TX5) (N := 10) hx hb hts in_X5 tyX5 tyX5_ok nmX5 hown hK hP hD hS 0 rfl rfl 1 (by decide) (hts _ q_198) (fun _ h9 => h9) rfl hin rfl (by decide +kernel) rfl rfl (Nat.le_of_ble_eq_true rfl) dX5_init_23 (fun H locs hP hD hS => ?_)
  have hP : va_P (dC, dI) vwCl [(h0, .inr (5, [.ref o, .ref lp, .null, .null, .int 0, .long 0, .int 0, .int 0, .int 0, .long 0])), (o, .inr (1, [.long 0, .long 0, .int 0, .int 0])), (lp, .inr (0, [.int 0, .int 0]))] H := hP
  have hD : va_D A [(h0, .inr (5, [.ref o, .ref lp, .null, .null, .int 0, .long 0, .int 0, .int 0, .int 0, .long 0])), (o, .inr (1, [.long 0, .long 0, .int 0, .int 0])), (lp, .inr (0, [.int 0, .int 0]))] := hD
  refine lv_aload_n hx hb dX5_init_26 rfl (lv_at hl 0 rfl) ?_
  refine lv_bipush (v := 8) hx hb dX5_init_27 (by decide) ?_
  refine va_newq (C := "Clockhouse$Server") (N' := 8) hx hb hown (hts _ q_102) hNG.2 hK hP hD hS hA (by decide) (by decide) (by decide) (Nat.le_of_ble_eq_true rfl) (Nat.le_of_ble_eq_true rfl) dX5_init_29 (fun rm c1 H hK1 hP hD hS => ?_)
  have e1 := K_uniq (k := 3) hK1 rfl
  subst e1
  have hP : va_P (dC, dI) vwCl [(h0, .inr (5, [.ref o, .ref lp, .null, .null, .int 0, .long 0, .int 0, .int 0, .int 0, .long 0])), (o, .inr (1, [.long 0, .long 0, .int 0, .int 0])), (lp, .inr (0, [.int 0, .int 0])), (rm, .inl (cA 3, 8, .inr (.inr (.inr (.inr (fun _ => none))))))] H := hP
  have hD : va_D A [(h0, .inr (5, [.ref o, .ref lp, .null, .null, .int 0, .long 0, .int 0, .int 0, .int 0, .long 0])), (o, .inr (1, [.long 0, .long 0, .int 0, .int 0])), (lp, .inr (0, [.int 0, .int 0])), (rm, .inl (cA 3, 8, .inr (.inr (.inr (.inr (fun _ => none))))))] := hD
  refine va_putF (D := (dC, dI)) (ci := 5) (v := .ref rm) (ty := .array (.object "Clockhouse$Server")) (C := RX5) (T := TX5) (N := 10) hx hb hts in_X5 tyX5 tyX5_ok nmX5 hown hK hP hD hS 0 rfl rfl 2 (by decide) (hts _ q_199) (fun _ h9 => h9) rfl hin rfl (by decide +kernel) rfl rfl (Nat.le_of_ble_eq_true rfl) dX5_init_32 (fun H locs hP hD hS => ?_)
  have hP : va_P (dC, dI) vwCl [(h0, .inr (5, [.ref o, .ref lp, .ref rm, .null, .int 0, .long 0, .int 0, .int 0, .int 0, .long 0])), (o, .inr (1, [.long 0, .long 0, .int 0, .int 0])), (lp, .inr (0, [.int 0, .int 0])), (rm, .inl (cA 3, 8, .inr (.inr (.inr (.inr (fun _ => none))))))] H := hP
  have hD : va_D A [(h0, .inr (5, [.ref o, .ref lp, .ref rm, .null, .int 0, .long 0, .int 0, .int 0, .int 0, .long 0])), (o, .inr (1, [.long 0, .long 0, .int 0, .int 0])), (lp, .inr (0, [.int 0, .int 0])), (rm, .inl (cA 3, 8, .inr (.inr (.inr (.inr (fun _ => none))))))] := hD
  refine lv_aload_n hx hb dX5_init_35 rfl (lv_at hl 0 rfl) ?_
  refine n_newN (S := Nat → Nat) (C := RX3) (host := "Clockhouse") (ci := 3) (fs := [.null, .null, .null, .null, .int 0, .int 0, .int 0, .long 0, .long 0]) (ws := [(h0, .inr (5, [.ref o, .ref lp, .ref rm, .null, .int 0, .long 0, .int 0, .int 0, .int 0, .long 0])), (o, .inr (1, [.long 0, .long 0, .int 0, .int 0])), (lp, .inr (0, [.int 0, .int 0])), (rm, .inl (cA 3, 8, .inr (.inr (.inr (.inr (fun _ => none))))))]) (w1 := fun q (us : Nat → Nat) => [(q, .inr (3, [.ref (us 0), .ref (us 1), .ref (us 2), .ref (us 3), .int 0, .int 0, .int 0, .long 0, .long 0])), (us 0, .inr (2, [.ref (us 4)])), (us 1, .inr (2, [.ref (us 5)])), (us 2, .inr (2, [.ref (us 6)])), (us 3, .inr (2, [.ref (us 7)])), (us 4, .inl (cA 1, 8, .inr (.inl (fun _ => 0)))), (us 5, .inl (cA 1, 8, .inr (.inl (fun _ => 0)))), (us 6, .inl (cA 1, 8, .inr (.inl (fun _ => 0)))), (us 7, .inl (cA 1, 8, .inr (.inl (fun _ => 0))))]) hx hb hml hts in_X3 tyX3 tyX3_ok hown q_104 q_105 q_50 hK hP hD hS hA hNG rfl (by decide) (fun q sz => c_X3_init l dC dI cA q sz) q_108 rfl rfl (show Cond.methodLinkNest RX5 31 yX3_init "Clockhouse" ∈ NGx from List.mem_filter.mpr ⟨by decide +kernel, rfl⟩) q_107 hyX3_init rfl rfl ⟨(Nat.le_of_ble_eq_true rfl), (Nat.le_of_ble_eq_true rfl)⟩ hl.1 (Nat.le_of_ble_eq_true rfl) dX5_init_36 dX5_init_39 dX5_init_40 (Nat.le_of_ble_eq_true rfl) (Nat.le_of_ble_eq_true rfl) (fun se us H locs hP hD hS => ?_)
  have hP : va_P (dC, dI) vwCl [(h0, .inr (5, [.ref o, .ref lp, .ref rm, .null, .int 0, .long 0, .int 0, .int 0, .int 0, .long 0])), (o, .inr (1, [.long 0, .long 0, .int 0, .int 0])), (lp, .inr (0, [.int 0, .int 0])), (rm, .inl (cA 3, 8, .inr (.inr (.inr (.inr (fun _ => none)))))), (se, .inr (3, [.ref (us 0), .ref (us 1), .ref (us 2), .ref (us 3), .int 0, .int 0, .int 0, .long 0, .long 0])), (us 0, .inr (2, [.ref (us 4)])), (us 1, .inr (2, [.ref (us 5)])), (us 2, .inr (2, [.ref (us 6)])), (us 3, .inr (2, [.ref (us 7)])), (us 4, .inl (cA 1, 8, .inr (.inl (fun _ => 0)))), (us 5, .inl (cA 1, 8, .inr (.inl (fun _ => 0)))), (us 6, .inl (cA 1, 8, .inr (.inl (fun _ => 0)))), (us 7, .inl (cA 1, 8, .inr (.inl (fun _ => 0))))] H := hP
  have hD : va_D A [(h0, .inr (5, [.ref o, .ref lp, .ref rm, .null, .int 0, .long 0, .int 0, .int 0, .int 0, .long 0])), (o, .inr (1, [.long 0, .long 0, .int 0, .int 0])), (lp, .inr (0, [.int 0, .int 0])), (rm, .inl (cA 3, 8, .inr (.inr (.inr (.inr (fun _ => none)))))), (se, .inr (3, [.ref (us 0), .ref (us 1), .ref (us 2), .ref (us 3), .int 0, .int 0, .int 0, .long 0, .long 0])), (us 0, .inr (2, [.ref (us 4)])), (us 1, .inr (2, [.ref (us 5)])), (us 2, .inr (2, [.ref (us 6)])), (us 3, .inr (2, [.ref (us 7)])), (us 4, .inl (cA 1, 8, .inr (.inl (fun _ => 0)))), (us 5, .inl (cA 1, 8, .inr (.inl (fun _ => 0)))), (us 6, .inl (cA 1, 8, .inr (.inl (fun _ => 0)))), (us 7, .inl (cA 1, 8, .inr (.inl (fun _ => 0))))] := hD
  refine va_putF (D := (dC, dI)) (ci := 5) (v := .ref se) (ty := .object "Clockhouse$Selection") (C := RX5) (T := TX5) (N := 10) hx hb hts in_X5 tyX5 tyX5_ok nmX5 hown hK hP hD hS 0 rfl rfl 3 (by decide) (hts _ q_200) (fun _ h9 => h9) rfl hin rfl (by decide +kernel) rfl rfl (Nat.le_of_ble_eq_true rfl) dX5_init_43 (fun H locs hP hD hS => ?_)
  have hP : va_P (dC, dI) vwCl [(h0, .inr (5, [.ref o, .ref lp, .ref rm, .ref se, .int 0, .long 0, .int 0, .int 0, .int 0, .long 0])), (o, .inr (1, [.long 0, .long 0, .int 0, .int 0])), (lp, .inr (0, [.int 0, .int 0])), (rm, .inl (cA 3, 8, .inr (.inr (.inr (.inr (fun _ => none)))))), (se, .inr (3, [.ref (us 0), .ref (us 1), .ref (us 2), .ref (us 3), .int 0, .int 0, .int 0, .long 0, .long 0])), (us 0, .inr (2, [.ref (us 4)])), (us 1, .inr (2, [.ref (us 5)])), (us 2, .inr (2, [.ref (us 6)])), (us 3, .inr (2, [.ref (us 7)])), (us 4, .inl (cA 1, 8, .inr (.inl (fun _ => 0)))), (us 5, .inl (cA 1, 8, .inr (.inl (fun _ => 0)))), (us 6, .inl (cA 1, 8, .inr (.inl (fun _ => 0)))), (us 7, .inl (cA 1, 8, .inr (.inl (fun _ => 0))))] H := hP
  have hD : va_D A [(h0, .inr (5, [.ref o, .ref lp, .ref rm, .ref se, .int 0, .long 0, .int 0, .int 0, .int 0, .long 0])), (o, .inr (1, [.long 0, .long 0, .int 0, .int 0])), (lp, .inr (0, [.int 0, .int 0])), (rm, .inl (cA 3, 8, .inr (.inr (.inr (.inr (fun _ => none)))))), (se, .inr (3, [.ref (us 0), .ref (us 1), .ref (us 2), .ref (us 3), .int 0, .int 0, .int 0, .long 0, .long 0])), (us 0, .inr (2, [.ref (us 4)])), (us 1, .inr (2, [.ref (us 5)])), (us 2, .inr (2, [.ref (us 6)])), (us 3, .inr (2, [.ref (us 7)])), (us 4, .inl (cA 1, 8, .inr (.inl (fun _ => 0)))), (us 5, .inl (cA 1, 8, .inr (.inl (fun _ => 0)))), (us 6, .inl (cA 1, 8, .inr (.inl (fun _ => 0)))), (us 7, .inl (cA 1, 8, .inr (.inl (fun _ => 0))))] := hD
  refine lv_iconst (v := 0) hx hb dX5_init_46 (by decide) ?_
  refine lv_istore_n (lv' := [(1, .int 0), (0, .ref h0)]) hx hb dX5_init_47 rfl hl (by decide) rfl (fun ls hl => ?_)
  have L48 : ∀ (r i : Nat) (a : Nat → Nat → Nat) (H : Heap) (locs : List Loc) (ls : Array Slot), i + r = 9 → i ≤ 8 → va_P (dC, dI) vwCl (X13 cA h0 o lp rm se us (rmF a i) ++ SVs cA a i) H → va_D A (X13 cA h0 o lp rm se us (rmF a i) ++ SVs cA a i) → va_S A s.heap H locs → lv_has ls 2 [(1, .int (nI i)), (0, .ref h0)] → W p l e ({ frames := 3, cells := 68, slots := 347, locals := 80 } : Room) s m ([.ref h0] : List Value).toArray below meth c H locs (12 + 7 * i) (59 + 36 * i) (MQ below (NQ dC dI cA (fun u : Nat → Nat => wld 69 layC cA (ad0 h0 u) (f_X5_begin M0c 0)) [(h0, .inr (5, [.null, .null, .null, .null, .int 0, .long 0, .int 0, .int 0, .int 0, .long 0]))] sz) ([.ref h0] : List Value).toArray s 68 347 (va_A [(h0, .inr (5, [.null, .null, .null, .null, .int 0, .long 0, .int 0, .int 0, .int 0, .long 0]))] sz)) (F0 m 48 ls []) := by
    intro r
    induction r with
    | zero => intro i a H locs ls hir hib; omega
    | succ r ih =>
      intro i a H locs ls hir hib hP hD hS hl
      refine lv_iload_n hx hb dX5_init_48 rfl (lv_at hl 0 rfl) ?_
      refine lv_aload_n hx hb dX5_init_49 rfl (lv_at hl 1 rfl) ?_
      refine va_get (D := (dC, dI)) (ci := 5) (v := .ref rm) (C := RX5) (T := TX5) (N := 10) hx hb hts in_X5 hown hK hP 0 rfl rfl 2 (by decide) (hts _ q_199) (fun _ h9 => h9) rfl dX5_init_50 ?_
      refine va_alen (D := (dC, dI)) hx hb hK hP 3 3 (x := (8, .inr (.inr (.inr (.inr (rmF a i)))))) (cA := cA 3) rfl (ty := .object "Clockhouse$Server") rfl (v := 8) rfl dX5_init_53 ?_
      refine jI_ge (tgt := 76) hx hb dX5_init_54 (by decide) (fun c_1 => ?_) (fun c_1 => ?_)
      · have hi8 : i < 8 := nI_lt8 (n := 8) c_1 (by omega) (by decide)
        refine lv_aload_n hx hb dX5_init_57 rfl (lv_at hl 1 rfl) ?_
        refine va_get (D := (dC, dI)) (ci := 5) (v := .ref rm) (C := RX5) (T := TX5) (N := 10) hx hb hts in_X5 hown hK hP 0 rfl rfl 2 (by decide) (hts _ q_199) (fun _ h9 => h9) rfl dX5_init_58 ?_
        refine lv_iload_n hx hb dX5_init_61 rfl (lv_at hl 0 rfl) ?_
        refine n_newN (S := Nat → Nat) (C := RX4) (host := "Clockhouse") (ci := 4) (fs := [.null, .null, .null, .int 0, .int 0, .int 0, .int 0, .long 0, .long 0]) (ws := (X13 cA h0 o lp rm se us (rmF a i) ++ SVs cA a i)) (w1 := fun q (u : Nat → Nat) => [(q, .inr (4, [.ref (u 0), .ref (u 1), .ref (u 2), .int 0, .int 0, .int 0, .int 0, .long 0, .long 0])), (u 0, .inr (2, [.ref (u 3)])), (u 1, .inr (2, [.ref (u 4)])), (u 2, .inr (2, [.ref (u 5)])), (u 3, .inl (cA 1, 8, .inr (.inl (fun _ => 0)))), (u 4, .inl (cA 1, 8, .inr (.inl (fun _ => 0)))), (u 5, .inl (cA 1, 8, .inr (.inl (fun _ => 0))))]) hx hb hml hts in_X4 tyX4 tyX4_ok hown q_102 q_149 q_52 hK hP hD hS hA hNG rfl (by decide) (fun q sz => c_X4_init l dC dI cA q sz) q_152 rfl rfl (show Cond.methodLinkNest RX5 36 yX4_init "Clockhouse" ∈ NGx from List.mem_filter.mpr ⟨by decide +kernel, rfl⟩) q_151 hyX4_init rfl rfl ⟨(Nat.le_of_ble_eq_true rfl), (Nat.le_of_ble_eq_true rfl)⟩ hl.1 (Nat.le_of_ble_eq_true rfl) dX5_init_62 dX5_init_65 dX5_init_66 (by show 12 + 7 * i + 1 + 6 ≤ 68; omega) (by show 59 + 36 * i + 9 + 27 ≤ 347; omega) (fun q u H locs hP hD hS => ?_)
        have eW : (X13 cA h0 o lp rm se us (rmF a i) ++ SVs cA a i) ++ [(q, .inr (4, [.ref (u 0), .ref (u 1), .ref (u 2), .int 0, .int 0, .int 0, .int 0, .long 0, .long 0])), (u 0, .inr (2, [.ref (u 3)])), (u 1, .inr (2, [.ref (u 4)])), (u 2, .inr (2, [.ref (u 5)])), (u 3, .inl (cA 1, 8, .inr (.inl (fun _ => 0)))), (u 4, .inl (cA 1, 8, .inr (.inl (fun _ => 0)))), (u 5, .inl (cA 1, 8, .inr (.inl (fun _ => 0))))] = (X13 cA h0 o lp rm se us (rmF a i) ++ SVs cA (nxA a i q u) (i + 1)) := by
          rw [SVs_succ, List.append_assoc]
          rw [SVs_congr (b := nxA a i q u) (fun k hk => by funext c; unfold nxA; rw [if_neg (by omega)])]
          congr 2
          unfold srv7 nxA
          simp
        rw [eW] at hP hD
        have hv : (X13 cA h0 o lp rm se us (rmF a i) ++ SVs cA (nxA a i q u) (i + 1))[13 + 7 * i]? = some (q, .inr (4, [.ref (u 0), .ref (u 1), .ref (u 2), .int 0, .int 0, .int 0, .int 0, .long 0, .long 0])) := by
          rw [← eW, List.getElem?_append_right (by rw [List.length_append, SVs_len]; show 13 + 7 * i ≤ 13 + 7 * i; omega)]
          rw [show 13 + 7 * i - (X13 cA h0 o lp rm se us (rmF a i) ++ SVs cA a i).length = 0 by rw [List.length_append, SVs_len]; show 13 + 7 * i - (13 + 7 * i) = 0; omega]
          rfl
        refine va_astq (D := (dC, dI)) (r := (RX4, TX4, 9)) hx hb hK hP hD hS 3 3 (13 + 7 * i) 4 (f := rmF a i) (n := 8) (cA := cA 3) rfl rfl hv rfl (vp_in_nI hi8 (by decide)) dX5_init_69 (fun H locs hP hD hS => ?_)
        rw [nI_clamp (by omega), rmF_succ (u := u)] at hP hD
        have hP : va_P (dC, dI) vwCl (X13 cA h0 o lp rm se us (rmF (nxA a i q u) (i + 1)) ++ SVs cA (nxA a i q u) (i + 1)) H := hP
        have hD : va_D A (X13 cA h0 o lp rm se us (rmF (nxA a i q u) (i + 1)) ++ SVs cA (nxA a i q u) (i + 1)) := hD
        refine lv_iinc (v := nI (i + 1)) (lv' := [(1, .int (nI (i + 1))), (0, .ref h0)]) hx hb dX5_init_70 hl (k := 0) rfl (show nI i + 1 = nI (i + 1) from nI_1 _) (by decide) rfl (fun ls hl => ?_)
        refine lv_goto (tgt := 48) hx hb dX5_init_73 (by decide) ?_
        exact ih (i + 1) (nxA a i q u) _ _ _ (by omega) (by omega) hP hD hS hl
      · have e8 : i = 8 := by
          rcases Nat.lt_or_ge i 8 with h | h
          · exact absurd (nI_lt h (by decide)) c_1
          · omega
        subst e8
        have ec : vp_cell (cA 3) (8, .inr (.inr (.inr (.inr (rmF a 8))))) = vp_cell (cA 3) (8, .inr (.inr (.inr (.inr (fun j => some (adC h0 o lp rm se us a (5 + j))))))) := by
          rw [vp_cell_q, vp_cell_q]
          refine arrV_congr (fun j hj => ?_)
          unfold rmF adC
          rw [if_pos hj, if_neg (by omega), if_pos (by omega), Nat.add_sub_cancel_left]
        have hP1 := swapE (k := 3) (a := rm) (x := (cA 3, (8, .inr (.inr (.inr (.inr (rmF a 8))))))) (y := (cA 3, (8, .inr (.inr (.inr (.inr (fun j => some (adC h0 o lp rm se us a (5 + j))))))))) hP rfl ec
        have hD1 := hD.set (p := 3) (a := rm) (e := .inl (cA 3, (8, .inr (.inr (.inr (.inr (fun j => some (adC h0 o lp rm se us a (5 + j)))))))))  rfl
        have hP1 : va_P (dC, dI) vwCl (X13 cA h0 o lp rm se us (fun j => some (adC h0 o lp rm se us a (5 + j))) ++ SVs cA a 8) H := hP1
        have hD1 : va_D A (X13 cA h0 o lp rm se us (fun j => some (adC h0 o lp rm se us a (5 + j))) ++ SVs cA a 8) := hD1
        have hP2 : va_P (dC, dI) vwCl (wld 69 layC cA (adC h0 o lp rm se us a) M0c) H := hP1.by (fun k => ([0, 1, 2, 3, 4, 13, 20, 27, 34, 41, 48, 55, 62, 5, 6, 7, 8, 14, 15, 16, 21, 22, 23, 28, 29, 30, 35, 36, 37, 42, 43, 44, 49, 50, 51, 56, 57, 58, 63, 64, 65, 9, 10, 11, 12, 17, 18, 19, 24, 25, 26, 31, 32, 33, 38, 39, 40, 45, 46, 47, 52, 53, 54, 59, 60, 61, 66, 67, 68] : List Nat).getD k 0) (fun k q hq => by obtain ⟨h1, rfl⟩ := wld_inv hq; exact made69 h1)
        have hI : Inj 69 (adC h0 o lp rm se us a) := fun i j hi hj hij => pos69 i hi j hj (hD1.1 _ _ _ _ (made69 hi) (made69 hj) hij)
        have hAA : ∀ q, adS 69 (adC h0 o lp rm se us a) q → A q := fun q ⟨k, hk, e⟩ => by rw [e]; exact hD1.2 _ _ (made69 hk)
        refine lv_aload_n hx hb dX5_init_76 rfl (lv_at hl 1 rfl) ?_
        refine lv_iconst (v := 0) hx hb dX5_init_77 (by decide) ?_
        refine kVv hx hb hml hown hts hK hP2 hS hAA (As := [.int 0]) (rest := []) (c_X5_begin l dC dI cA (adC h0 o lp rm se us a) hI M0c 0) (mkV hts q_187 q_47 q_184 q_186 q_0 hyX5_begin rfl rfl ⟨(Nat.le_of_ble_eq_true rfl), (Nat.le_of_ble_eq_true rfl)⟩) (w_recv hK hP2 (k := 0) (by decide) lyC0 (q := (RX5, TX5, 10)) rfl) rfl hl.1 rfl (Nat.le_of_ble_eq_true rfl) dX5_init_78 ⟨(Nat.le_of_ble_eq_true rfl), (Nat.le_of_ble_eq_true rfl)⟩ (fun u H locs hw hP hS _ _ => ?_)
        rw [hw] at hP
        have e0 : ad0 h0 (adC h0 o lp rm se us a) = adC h0 o lp rm se us a := by
          funext k
          unfold ad0
          by_cases h : k = 0
          · rw [if_pos h, h]; rfl
          · rw [if_neg h]
        refine W.widen (k := 68) (n := 347) (Nat.le_of_ble_eq_true rfl) (Nat.le_of_ble_eq_true rfl) ?_
        exact W.vret hx hb hr (fun t ht hW => hend (adC h0 o lp rm se us a) t _ _ ht hW (by rw [e0]; exact hP) (by rw [e0]; exact wld_D hI hAA) hS) (fun q h => hfree _ (hS.2.2 q h)) dX5_init_81
  exact L48 9 0 (fun _ _ => 0) _ _ _ (by omega) (by omega) (show va_P (dC, dI) vwCl (X13 cA h0 o lp rm se us (rmF (fun _ _ => 0) 0) ++ SVs cA (fun _ _ => 0) 0) _ from hP) (show va_D A (X13 cA h0 o lp rm se us (rmF (fun _ _ => 0) 0) ++ SVs cA (fun _ _ => 0) 0) from hD) hS hl
