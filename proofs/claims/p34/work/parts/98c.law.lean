/-! the law: its loop -/
set_option maxHeartbeats 4000000 in
set_option maxRecDepth 100000 in
theorem s_law_189 {p : Program} {l : Launch} {e : Env} {s : State} {m : MethodId} {below : List Frame} {meth : Method} {c : Code} {b L : Nat} {xs : Nat → Int32} {dC : Nat → ClassId} {dI : Nat → Nat → Nat} {cA : Nat → ClassId} {ad bd : Nat → Nat} (C : LK p l s m c #[Value.ref b] code 13 dC dI cA (fun q => s.heap.size ≤ q)) (ha : CA (fun q => s.heap.size ≤ q) ad) (ha2 : CA (fun q => s.heap.size ≤ q) bd) (hab : AP ad bd) (hX : va_X b L xs s s.heap) (hbl : b < s.heap.size) (hL : L ≤ 260) (hNG : NGp s) (hret : meth.sig.returnType = ret) (hlocks : meth.locks = false) {start things : Int32} (hst0 : 0 ≤ start.toInt) (hth : 8 ≤ things.toInt ∧ things.toInt ≤ 40) :
    ∀  (Mm : Mem) (t : Int32) (M N : Mem) (H : Heap) (locs : List Loc) (ls : Array Slot) (ca sl : Nat),  CL Mm t M → CL Mm t N → va_P (dC, dI) vwCl (wld 69 layC cA ad M) H → va_P (dC, dI) vwCl (wld 69 layC cA bd N) H → va_S (fun q => s.heap.size ≤ q) s.heap H locs → lv_has ls 13 [(6, .int (1 : Int32)), (3, .int start), (1, .ref (ad (0))), (2, .ref (bd (0))), (0, .ref b)] → ca ≤ 100000 → sl ≤ 600000 → W p l e room_1 s m #[Value.ref b] below meth c H locs ca sl (lw_Z below #[Value.ref b] s) (F0 m 189 ls []) := by
  obtain ⟨hx, hb, hml, hown, hts, hK, hKX, hNC, hfl⟩ := id C
  obtain ⟨hI0, hA0⟩ := id ha
  obtain ⟨hI1, hA1⟩ := id ha2
  have hbA : ¬ (fun q : Nat => s.heap.size ≤ q) b := Nat.not_le.mpr hbl
  intro  Mm t M N H locs ls ca sl  hC0 hC1 hP0 hP1 hS hl hca hsl
  refine lv_iload hx hb dL_law_189 (lv_at hl 0 rfl) ?_
  refine j0_eq (tgt := 247) hx hb dL_law_191 (by decide) (fun ck => absurd ck ((by decide))) (fun _ => ?_)
  refine lv_iload_n hx hb dL_law_194 rfl (lv_at hl 1 rfl) ?_
  refine lv_ldc (v := 400001) hx hb hown (hts _ q_817) dL_law_195 ?_
  refine lv_irem hx hb dL_law_197 (by decide) ?_
  refine w_eqi (y := rem start (400001 : Int32)) rfl ?_
  refine lv_ldc (v := 200000) hx hb hown (hts _ q_818) dL_law_198 ?_
  refine lv_isub hx hb dL_law_200 ?_
  refine lv_iload_n hx hb dL_law_201 rfl (lv_at hl 1 rfl) ?_
  refine lv_bipush (v := 7) hx hb dL_law_202 (by decide) ?_
  refine lv_idiv hx hb dL_law_204 (by decide) ?_
  refine lv_sipush (v := 601) hx hb dL_law_205 (by decide) ?_
  refine lv_irem hx hb dL_law_208 (by decide) ?_
  refine w_eqi (y := rem (start / (7 : Int32)) (601 : Int32)) rfl ?_
  refine lv_sipush (v := 300) hx hb dL_law_209 (by decide) ?_
  refine lv_isub hx hb dL_law_212 ?_
  refine lv_iload_n hx hb dL_law_213 rfl (lv_at hl 1 rfl) ?_
  refine lv_bipush (v := 11) hx hb dL_law_214 (by decide) ?_
  refine lv_idiv hx hb dL_law_216 (by decide) ?_
  refine lv_ldc (v := 400001) hx hb hown (hts _ q_817) dL_law_217 ?_
  refine lv_irem hx hb dL_law_219 (by decide) ?_
  refine w_eqi (y := rem (start / (11 : Int32)) (400001 : Int32)) rfl ?_
  refine lv_ldc (v := 200000) hx hb hown (hts _ q_818) dL_law_220 ?_
  refine lv_isub hx hb dL_law_222 ?_
  refine lv_iload_n hx hb dL_law_223 rfl (lv_at hl 1 rfl) ?_
  refine lv_bipush (v := 13) hx hb dL_law_224 (by decide) ?_
  refine lv_idiv hx hb dL_law_226 (by decide) ?_
  refine lv_ldc (v := 100000) hx hb hown (hts _ q_819) dL_law_227 ?_
  refine lv_irem hx hb dL_law_229 (by decide) ?_
  refine w_eqi (y := rem (start / (13 : Int32)) (100000 : Int32)) rfl ?_
  refine lv_iload_n hx hb dL_law_230 rfl (lv_at hl 1 rfl) ?_
  refine lv_bipush (v := 17) hx hb dL_law_231 (by decide) ?_
  refine lv_idiv hx hb dL_law_233 (by decide) ?_
  refine lv_ldc (v := 100000) hx hb hown (hts _ q_819) dL_law_234 ?_
  refine lv_irem hx hb dL_law_236 (by decide) ?_
  refine w_eqi (y := rem (start / (17 : Int32)) (100000 : Int32)) rfl ?_
  refine kM0 hx hb hml hown hts hK hS hKX hNC hNG (As := [.int ((rem start (400001 : Int32)) - (200000 : Int32)), .int ((rem (start / (7 : Int32)) (601 : Int32)) - (300 : Int32)), .int ((rem (start / (11 : Int32)) (400001 : Int32)) - (200000 : Int32)), .int (rem (start / (13 : Int32)) (100000 : Int32)), .int (rem (start / (17 : Int32)) (100000 : Int32))]) (rest := []) (c_L_slews l hfl dC dI cA (sl_1 hst0) (sl_2 hst0) (sl_3 hst0) (sl_4 hst0) (sl_5 hst0)) (mkS hts q_823 q_24 q_821 q_822 hyL_slews rfl rfl ⟨(Nat.le_of_ble_eq_true rfl), (Nat.le_of_ble_eq_true rfl)⟩) rfl hl.1 rfl (Nat.le_of_ble_eq_true rfl) dL_law_237 ⟨by show ca + 200 ≤ 883483; omega, by show sl + 1200 ≤ 6451176; omega⟩ (fun H locs hS => ?_)
  refine j0_eq (tgt := 247) hx hb dL_law_240 (by decide) (fun ck => absurd ck ((by decide))) (fun _ => ?_)
  refine lv_iconst (v := 1) hx hb dL_law_243 (by decide) ?_
  refine lv_goto (tgt := 248) hx hb dL_law_244 (by decide) ?_
  refine va_forget hS.2.2 ?_
  refine W.widen (k := 883483) (n := 6451176) (by omega) (by omega) ?_
  exact lw_ret hx hb hret hlocks dL_law_248
set_option maxHeartbeats 4000000 in
set_option maxRecDepth 100000 in
theorem s_law_71 {p : Program} {l : Launch} {e : Env} {s : State} {m : MethodId} {below : List Frame} {meth : Method} {c : Code} {b L : Nat} {xs : Nat → Int32} {dC : Nat → ClassId} {dI : Nat → Nat → Nat} {cA : Nat → ClassId} {ad bd : Nat → Nat} (C : LK p l s m c #[Value.ref b] code 13 dC dI cA (fun q => s.heap.size ≤ q)) (ha : CA (fun q => s.heap.size ≤ q) ad) (ha2 : CA (fun q => s.heap.size ≤ q) bd) (hab : AP ad bd) (hX : va_X b L xs s s.heap) (hbl : b < s.heap.size) (hL : L ≤ 260) (hNG : NGp s) (hret : meth.sig.returnType = ret) (hlocks : meth.locks = false) {start things : Int32} (hst0 : 0 ≤ start.toInt) (hth : 8 ≤ things.toInt ∧ things.toInt ≤ 40) :
    ∀ (r i : Nat) (Mm : Mem) (t : Int32) (M N : Mem) (H : Heap) (locs : List Loc) (ls : Array Slot) (ca sl : Nat), i + r = 41 → i ≤ 40 → nowI Mm ≤ 1000000000 * (i : Int) →  CL Mm t M → CL Mm t N → va_P (dC, dI) vwCl (wld 69 layC cA ad M) H → va_P (dC, dI) vwCl (wld 69 layC cA bd N) H → va_S (fun q => s.heap.size ≤ q) s.heap H locs → lv_has ls 13 [(7, .int (nI i)), (6, .int (1 : Int32)), (4, .int things), (3, .int start), (1, .ref (ad (0))), (2, .ref (bd (0))), (0, .ref b)] → ca ≤ 1000 + 500 * i → sl ≤ 6000 + 3000 * i → W p l e room_1 s m #[Value.ref b] below meth c H locs ca sl (lw_Z below #[Value.ref b] s) (F0 m 71 ls []) := by
  obtain ⟨hx, hb, hml, hown, hts, hK, hKX, hNC, hfl⟩ := id C
  obtain ⟨hI0, hA0⟩ := id ha
  obtain ⟨hI1, hA1⟩ := id ha2
  have hbA : ¬ (fun q : Nat => s.heap.size ≤ q) b := Nat.not_le.mpr hbl
  intro r
  induction r with
  | zero =>
    intro i Mm t M N H locs ls ca sl hir his
    omega
  | succ r ih =>
    intro i Mm t M N H locs ls ca sl hir his hnw hC0 hC1 hP0 hP1 hS hl hca hsl
    refine lv_iload hx hb dL_law_71 (lv_at hl 0 rfl) ?_
    refine lv_iload hx hb dL_law_73 (lv_at hl 2 rfl) ?_
    refine jI_ge (tgt := 189) hx hb dL_law_75 (by decide) (fun c75 => ?_) (fun c75 => ?_)
    · have hk : i < 40 := th_lt hth c75 (by omega)
      refine lv_iload hx hb dL_law_78 (lv_at hl 1 rfl) ?_
      refine j0_eq (tgt := 189) hx hb dL_law_80 (by decide) (fun ck => absurd ck ((by decide))) (fun _ => ?_)
      refine lv_aload_n hx hb dL_law_83 rfl (lv_at hl 6 rfl) ?_
      refine lv_iconst (v := 1) hx hb dL_law_84 (by decide) ?_
      refine lv_iload hx hb dL_law_85 (lv_at hl 0 rfl) ?_
      refine lv_iadd hx hb dL_law_87 ?_
      refine kD hx hb hml hown hts hS hX hbl hbA (As := [.ref b, .int ((1 : Int32) + nI i)]) (rest := []) (c_L_drawn l (by omega) (dk_1 (by omega))) (mkS hts q_316 q_24 q_314 q_315 hyL_drawn rfl rfl ⟨(Nat.le_of_ble_eq_true rfl), (Nat.le_of_ble_eq_true rfl)⟩) rfl hl.1 rfl (Nat.le_of_ble_eq_true rfl) dL_law_88 ⟨by show ca ≤ 883483; omega, by show sl ≤ 6451176; omega⟩ (fun r H locs hw hS hkp => ?_)
      have hP0 := hP0.kept (fun k q h => hkp _ (hP0 k q h).lt)
      have hP1 := hP1.kept (fun k q h => hkp _ (hP1 k q h).lt)
      obtain ⟨x0, ex0, hx0⟩ : ∃ z, r = z ∧ 0 ≤ z.toInt := ⟨_, rfl, hw⟩
      refine w_eqi ex0 ?_
      refine lv_istore (lv' := [(8, .int x0), (7, .int (nI i)), (6, .int (1 : Int32)), (4, .int things), (3, .int start), (1, .ref (ad (0))), (2, .ref (bd (0))), (0, .ref b)]) hx hb dL_law_91 hl (by decide) rfl (fun ls hl => ?_)
      refine lv_aload_n hx hb dL_law_93 rfl (lv_at hl 6 rfl) ?_
      refine kVl hx hb hml hown hts hK hP1 hS hA1 (As := []) (rest := []) (c_X5_clock l dC dI cA bd hI1 _ ) (mkV hts q_208 q_25 q_205 q_206 q_207 hyX5_clock rfl rfl ⟨(Nat.le_of_ble_eq_true rfl), (Nat.le_of_ble_eq_true rfl)⟩) (w_recv hK hP1 (k := 0) (by decide) lyC0 (q := (RX5, TX5, 10)) rfl) rfl hl.1 rfl (Nat.le_of_ble_eq_true rfl) dL_law_94 ⟨by show ca ≤ 883483; omega, by show sl ≤ 6451176; omega⟩ (fun r u H locs hw hP1 hS _ hkp => ?_)
      have hP0 := wld_kept hP0 (B := adS 69 bd) (fun k hk9 ⟨j, hj, e⟩ => hab k j hk9 hj e) hkp
      obtain ⟨er, hC1⟩ := sp_clock hC1 hw
      refine w_eql er ?_
      refine lv_lstore (lv' := [(9, .long (f_X6_reading Mm)), (8, .int x0), (7, .int (nI i)), (6, .int (1 : Int32)), (4, .int things), (3, .int start), (1, .ref (ad (0))), (2, .ref (bd (0))), (0, .ref b)]) hx hb dL_law_97 hl (by decide) rfl (fun ls hl => ?_)
      refine lv_aload_n hx hb dL_law_99 rfl (lv_at hl 7 rfl) ?_
      refine kVl hx hb hml hown hts hK hP1 hS hA1 (As := []) (rest := []) (c_X5_civil l dC dI cA bd hI1 _ ) (mkV hts q_219 q_25 q_216 q_217 q_218 hyX5_civil rfl rfl ⟨(Nat.le_of_ble_eq_true rfl), (Nat.le_of_ble_eq_true rfl)⟩) (w_recv hK hP1 (k := 0) (by decide) lyC0 (q := (RX5, TX5, 10)) rfl) rfl hl.1 rfl (Nat.le_of_ble_eq_true rfl) dL_law_100 ⟨by show ca ≤ 883483; omega, by show sl ≤ 6451176; omega⟩ (fun r u H locs hw hP1 hS _ hkp => ?_)
      have hP0 := wld_kept hP0 (B := adS 69 bd) (fun k hk9 ⟨j, hj, e⟩ => hab k j hk9 hj e) hkp
      obtain ⟨er, hC1⟩ := sp_civil hC1 hw
      refine w_eql er ?_
      refine lv_lstore (lv' := [(11, .long (civ Mm)), (9, .long (f_X6_reading Mm)), (8, .int x0), (7, .int (nI i)), (6, .int (1 : Int32)), (4, .int things), (3, .int start), (1, .ref (ad (0))), (2, .ref (bd (0))), (0, .ref b)]) hx hb dL_law_103 hl (by decide) rfl (fun ls hl => ?_)
      refine lv_aload_n hx hb dL_law_105 rfl (lv_at hl 8 rfl) ?_
      refine lv_iload hx hb dL_law_106 (lv_at hl 2 rfl) ?_
      refine lv_sipush (v := 9973) hx hb dL_law_108 (by decide) ?_
      refine lv_irem hx hb dL_law_111 (by decide) ?_
      refine w_eqi (y := rem x0 (9973 : Int32)) rfl ?_
      refine kM1 hx hb hml hown hts hK hP1 hS hKX hNC hA1 (As := [.ref (bd (0)), .int (rem x0 (9973 : Int32))]) (rest := []) (c_L_refuses l hfl dC dI cA bd hI1 hC1 (rf_1 hx0)) (mkS hts q_321 q_24 q_319 q_320 hyL_refuses rfl rfl ⟨(Nat.le_of_ble_eq_true rfl), (Nat.le_of_ble_eq_true rfl)⟩) rfl hl.1 rfl (Nat.le_of_ble_eq_true rfl) dL_law_112 ⟨by show ca + 50 ≤ 883483; omega, by show sl + 300 ≤ 6451176; omega⟩ (fun r u H locs hw hP1 hS _ hkp => ?_)
      have hP0 := wld_kept hP0 (B := adS 69 bd) (fun k hk9 ⟨j, hj, e⟩ => hab k j hk9 hj e) hkp
      obtain ⟨er, hC1⟩ := hw
      refine w_eqi er ?_
      refine j0_eq (tgt := 180) hx hb dL_law_115 (by decide) (fun ck => absurd ck ((by decide))) (fun _ => ?_)
      refine lv_aload_n hx hb dL_law_118 rfl (lv_at hl 7 rfl) ?_
      refine lv_aload_n hx hb dL_law_119 rfl (lv_at hl 8 rfl) ?_
      refine lv_iload hx hb dL_law_120 (lv_at hl 2 rfl) ?_
      refine kM2 hx hb hml hown hts hK hP0 hP1 hS hKX hNC hA0 hA1 (As := [.ref (ad (0)), .ref (bd (0)), .int x0]) (rest := []) (c_L_acts l hfl dC dI cA ad bd hI0 hI1 hab hC0 hC1 hx0 (by omega)) (mkS hts q_816 q_24 q_814 q_815 hyL_acts rfl rfl ⟨(Nat.le_of_ble_eq_true rfl), (Nat.le_of_ble_eq_true rfl)⟩) rfl hl.1 rfl (Nat.le_of_ble_eq_true rfl) dL_law_122 ⟨by show ca + 50 + 10 ≤ 883483; omega, by show sl + 300 + 60 ≤ 6451176; omega⟩ (fun r z H locs hw hP0 hP1 hS => ?_)
      obtain ⟨er, hw⟩ := hw
      refine w_eqi er ?_
      obtain ⟨Mm', t', hC0, hC1, hG⟩ := hw
      refine j0_eq (tgt := 180) hx hb dL_law_125 (by decide) (fun ck => absurd ck ((by decide))) (fun _ => ?_)
      refine lv_aload_n hx hb dL_law_128 rfl (lv_at hl 8 rfl) ?_
      refine lv_iload hx hb dL_law_129 (lv_at hl 2 rfl) ?_
      refine lv_sipush (v := 499) hx hb dL_law_131 (by decide) ?_
      refine lv_irem hx hb dL_law_134 (by decide) ?_
      refine w_eqi (y := rem x0 (499 : Int32)) rfl ?_
      refine kM1 hx hb hml hown hts hK hP1 hS hKX hNC hA1 (As := [.ref (bd (0)), .int (rem x0 (499 : Int32))]) (rest := []) (c_L_refuses l hfl dC dI cA bd hI1 hC1 (rf_2 hx0)) (mkS hts q_321 q_24 q_319 q_320 hyL_refuses rfl rfl ⟨(Nat.le_of_ble_eq_true rfl), (Nat.le_of_ble_eq_true rfl)⟩) rfl hl.1 rfl (Nat.le_of_ble_eq_true rfl) dL_law_135 ⟨by show ca + 50 + 10 + 50 ≤ 883483; omega, by show sl + 300 + 60 + 300 ≤ 6451176; omega⟩ (fun r u H locs hw hP1 hS _ hkp => ?_)
      have hP0 := wld_kept hP0 (B := adS 69 bd) (fun k hk9 ⟨j, hj, e⟩ => hab k j hk9 hj e) hkp
      obtain ⟨er, hC1⟩ := hw
      refine w_eqi er ?_
      refine j0_eq (tgt := 180) hx hb dL_law_138 (by decide) (fun ck => absurd ck ((by decide))) (fun _ => ?_)
      refine lv_aload_n hx hb dL_law_141 rfl (lv_at hl 7 rfl) ?_
      refine lv_aload_n hx hb dL_law_142 rfl (lv_at hl 8 rfl) ?_
      refine kM2 hx hb hml hown hts hK hP0 hP1 hS hKX hNC hA0 hA1 (As := [.ref (ad (0)), .ref (bd (0))]) (rest := []) (c_L_alike l hfl dC dI cA ad bd hI0 hI1 hab hC0 hC1) (mkS hts q_756 q_24 q_754 q_755 hyL_alike rfl rfl ⟨(Nat.le_of_ble_eq_true rfl), (Nat.le_of_ble_eq_true rfl)⟩) rfl hl.1 rfl (Nat.le_of_ble_eq_true rfl) dL_law_143 ⟨by show ca + 50 + 10 + 50 + 90 ≤ 883483; omega, by show sl + 300 + 60 + 300 + 540 ≤ 6451176; omega⟩ (fun r z H locs hw hP0 hP1 hS => ?_)
      obtain ⟨er, hw⟩ := hw
      refine w_eqi er ?_
      obtain ⟨hC0, hC1⟩ := hw
      refine j0_eq (tgt := 180) hx hb dL_law_146 (by decide) (fun ck => absurd ck ((by decide))) (fun _ => ?_)
      refine lv_aload_n hx hb dL_law_149 rfl (lv_at hl 8 rfl) ?_
      refine kM1 hx hb hml hown hts hK hP1 hS hKX hNC hA1 (As := [.ref (bd (0))]) (rest := []) (c_L_holds l hfl dC dI cA bd hI1 hC1) (mkS hts q_811 q_24 q_809 q_810 hyL_holds rfl rfl ⟨(Nat.le_of_ble_eq_true rfl), (Nat.le_of_ble_eq_true rfl)⟩) rfl hl.1 rfl (Nat.le_of_ble_eq_true rfl) dL_law_150 ⟨by show ca + 50 + 10 + 50 + 90 + 260 ≤ 883483; omega, by show sl + 300 + 60 + 300 + 540 + 1560 ≤ 6451176; omega⟩ (fun r u H locs hw hP1 hS _ hkp => ?_)
      have hP0 := wld_kept hP0 (B := adS 69 bd) (fun k hk9 ⟨j, hj, e⟩ => hab k j hk9 hj e) hkp
      obtain ⟨er, hC1⟩ := hw
      refine w_eqi er ?_
      refine j0_eq (tgt := 180) hx hb dL_law_153 (by decide) (fun ck => absurd ck ((by decide))) (fun _ => ?_)
      refine lv_aload_n hx hb dL_law_156 rfl (lv_at hl 8 rfl) ?_
      refine kVl hx hb hml hown hts hK hP1 hS hA1 (As := []) (rest := []) (c_X5_clock l dC dI cA bd hI1 _ ) (mkV hts q_208 q_25 q_205 q_206 q_207 hyX5_clock rfl rfl ⟨(Nat.le_of_ble_eq_true rfl), (Nat.le_of_ble_eq_true rfl)⟩) (w_recv hK hP1 (k := 0) (by decide) lyC0 (q := (RX5, TX5, 10)) rfl) rfl hl.1 rfl (Nat.le_of_ble_eq_true rfl) dL_law_157 ⟨by show ca + 50 + 10 + 50 + 90 + 260 ≤ 883483; omega, by show sl + 300 + 60 + 300 + 540 + 1560 ≤ 6451176; omega⟩ (fun r u H locs hw hP1 hS _ hkp => ?_)
      have hP0 := wld_kept hP0 (B := adS 69 bd) (fun k hk9 ⟨j, hj, e⟩ => hab k j hk9 hj e) hkp
      obtain ⟨er, hC1⟩ := sp_clock hC1 hw
      refine w_eql er ?_
      refine lv_lload hx hb dL_law_160 (lv_at hl 1 rfl) ?_
      refine jL_lt (tgt := 180) hx hb dL_law_162 dL_law_163 (by decide) (fun ck => absurd ck (gd_1 hG)) (fun _ => ?_)
      refine lv_aload_n hx hb dL_law_166 rfl (lv_at hl 8 rfl) ?_
      refine kVl hx hb hml hown hts hK hP1 hS hA1 (As := []) (rest := []) (c_X5_civil l dC dI cA bd hI1 _ ) (mkV hts q_219 q_25 q_216 q_217 q_218 hyX5_civil rfl rfl ⟨(Nat.le_of_ble_eq_true rfl), (Nat.le_of_ble_eq_true rfl)⟩) (w_recv hK hP1 (k := 0) (by decide) lyC0 (q := (RX5, TX5, 10)) rfl) rfl hl.1 rfl (Nat.le_of_ble_eq_true rfl) dL_law_167 ⟨by show ca + 50 + 10 + 50 + 90 + 260 ≤ 883483; omega, by show sl + 300 + 60 + 300 + 540 + 1560 ≤ 6451176; omega⟩ (fun r u H locs hw hP1 hS _ hkp => ?_)
      have hP0 := wld_kept hP0 (B := adS 69 bd) (fun k hk9 ⟨j, hj, e⟩ => hab k j hk9 hj e) hkp
      obtain ⟨er, hC1⟩ := sp_civil hC1 hw
      refine w_eql er ?_
      refine lv_lload hx hb dL_law_170 (lv_at hl 0 rfl) ?_
      refine jL_lt (tgt := 180) hx hb dL_law_172 dL_law_173 (by decide) (fun ck => absurd ck (gd_2 hG)) (fun _ => ?_)
      refine lv_iconst (v := 1) hx hb dL_law_176 (by decide) ?_
      refine lv_goto (tgt := 181) hx hb dL_law_177 (by decide) ?_
      refine lv_istore (lv' := [(6, .int (1 : Int32)), (11, .long (civ Mm)), (9, .long (f_X6_reading Mm)), (8, .int x0), (7, .int (nI i)), (4, .int things), (3, .int start), (1, .ref (ad (0))), (2, .ref (bd (0))), (0, .ref b)]) hx hb dL_law_181 hl (by decide) rfl (fun ls hl => ?_)
      refine lv_iinc (v := nI (i + 1)) (lv' := [(7, .int (nI (i + 1))), (6, .int (1 : Int32)), (11, .long (civ Mm)), (9, .long (f_X6_reading Mm)), (8, .int x0), (4, .int things), (3, .int start), (1, .ref (ad (0))), (2, .ref (bd (0))), (0, .ref b)]) hx hb dL_law_183 hl (k := 4) rfl (show nI (i) + 1 = nI (i + 1) from nI_1 _) (by decide) rfl (fun ls hl => ?_)
      refine lv_goto (tgt := 71) hx hb dL_law_186 (by decide) ?_
      exact ih (i + 1) _ _ _ _ _ _ _ _ _ (by omega) (by omega) (gd_3 hG hnw) hC0 hC1 hP0 hP1 hS (lv_sub hl [0, 1, 5, 6, 7, 8, 9] rfl) (by omega) (by omega)
    · exact s_law_189 C ha ha2 hab hX hbl hL hNG hret hlocks hst0 hth _ _ _ _ _ _ _ _ _ hC0 hC1 hP0 hP1 hS (lv_sub hl [1, 3, 4, 5, 6] rfl) (by omega) (by omega)
set_option maxHeartbeats 4000000 in
set_option maxRecDepth 100000 in
theorem s_law_16 {p : Program} {l : Launch} {e : Env} {s : State} {m : MethodId} {below : List Frame} {meth : Method} {c : Code} {b L : Nat} {xs : Nat → Int32} {dC : Nat → ClassId} {dI : Nat → Nat → Nat} {cA : Nat → ClassId} {ad bd : Nat → Nat} (C : LK p l s m c #[Value.ref b] code 13 dC dI cA (fun q => s.heap.size ≤ q)) (ha : CA (fun q => s.heap.size ≤ q) ad) (ha2 : CA (fun q => s.heap.size ≤ q) bd) (hab : AP ad bd) (hX : va_X b L xs s s.heap) (hbl : b < s.heap.size) (hL : L ≤ 260) (hNG : NGp s) (hret : meth.sig.returnType = ret) (hlocks : meth.locks = false)  :
    ∀  (Mm : Mem) (t : Int32) (M N : Mem) (H : Heap) (locs : List Loc) (ls : Array Slot) (ca sl : Nat),  CL Mm t M → CL Mm t N → va_P (dC, dI) vwCl (wld 69 layC cA ad M) H → va_P (dC, dI) vwCl (wld 69 layC cA bd N) H → va_S (fun q => s.heap.size ≤ q) s.heap H locs → lv_has ls 13 [(1, .ref (ad (0))), (2, .ref (bd (0))), (0, .ref b)] → ca ≤ 200 → sl ≤ 1200 → W p l e room_1 s m #[Value.ref b] below meth c H locs ca sl (lw_Z below #[Value.ref b] s) (F0 m 16 ls []) := by
  obtain ⟨hx, hb, hml, hown, hts, hK, hKX, hNC, hfl⟩ := id C
  obtain ⟨hI0, hA0⟩ := id ha
  obtain ⟨hI1, hA1⟩ := id ha2
  have hbA : ¬ (fun q : Nat => s.heap.size ≤ q) b := Nat.not_le.mpr hbl
  intro  Mm t M N H locs ls ca sl  hC0 hC1 hP0 hP1 hS hl hca hsl
  refine lv_aload_n hx hb dL_law_16 rfl (lv_at hl 2 rfl) ?_
  refine lv_iconst (v := 0) hx hb dL_law_17 (by decide) ?_
  refine kD hx hb hml hown hts hS hX hbl hbA (As := [.ref b, .int (0 : Int32)]) (rest := []) (c_L_drawn l (by omega) ((by decide))) (mkS hts q_316 q_24 q_314 q_315 hyL_drawn rfl rfl ⟨(Nat.le_of_ble_eq_true rfl), (Nat.le_of_ble_eq_true rfl)⟩) rfl hl.1 rfl (Nat.le_of_ble_eq_true rfl) dL_law_18 ⟨by show ca ≤ 883483; omega, by show sl ≤ 6451176; omega⟩ (fun r H locs hw hS hkp => ?_)
  have hP0 := hP0.kept (fun k q h => hkp _ (hP0 k q h).lt)
  have hP1 := hP1.kept (fun k q h => hkp _ (hP1 k q h).lt)
  obtain ⟨start, estart, hstart⟩ : ∃ z, r = z ∧ 0 ≤ z.toInt := ⟨_, rfl, hw⟩
  refine w_eqi estart ?_
  refine lv_istore_n (lv' := [(3, .int start), (1, .ref (ad (0))), (2, .ref (bd (0))), (0, .ref b)]) hx hb dL_law_21 rfl hl (by decide) rfl (fun ls hl => ?_)
  refine lv_bipush (v := 8) hx hb dL_law_22 (by decide) ?_
  refine lv_iload_n hx hb dL_law_24 rfl (lv_at hl 0 rfl) ?_
  refine lv_bipush (v := 33) hx hb dL_law_25 (by decide) ?_
  refine lv_irem hx hb dL_law_27 (by decide) ?_
  refine w_eqi (y := rem start (33 : Int32)) rfl ?_
  refine lv_iadd hx hb dL_law_28 ?_
  obtain ⟨things, ethings, hthings⟩ := (⟨_, rfl, th_r hstart⟩ : ∃ z : Int32, ((8 : Int32) + (rem start (33 : Int32))) = z ∧ 8 ≤ z.toInt ∧ z.toInt ≤ 40)
  refine w_eqi ethings ?_
  refine lv_istore (lv' := [(4, .int things), (3, .int start), (1, .ref (ad (0))), (2, .ref (bd (0))), (0, .ref b)]) hx hb dL_law_29 hl (by decide) rfl (fun ls hl => ?_)
  refine lv_iload_n hx hb dL_law_31 rfl (lv_at hl 1 rfl) ?_
  refine lv_bipush (v := 33) hx hb dL_law_32 (by decide) ?_
  refine lv_idiv hx hb dL_law_34 (by decide) ?_
  refine lv_ldc (v := 2000001) hx hb hown (hts _ q_826) dL_law_35 ?_
  refine lv_irem hx hb dL_law_37 (by decide) ?_
  refine w_eqi (y := rem (start / (33 : Int32)) (2000001 : Int32)) rfl ?_
  refine lv_ldc (v := 1000000) hx hb hown (hts _ q_827) dL_law_38 ?_
  refine lv_isub hx hb dL_law_40 ?_
  obtain ⟨rd, erd, hrd⟩ := (⟨_, rfl, rd_r hstart⟩ : ∃ z : Int32, ((rem (start / (33 : Int32)) (2000001 : Int32)) - (1000000 : Int32)) = z ∧ -1000000 ≤ z.toInt ∧ z.toInt ≤ 1000000)
  refine w_eqi erd ?_
  refine lv_istore (lv' := [(5, .int rd), (4, .int things), (3, .int start), (1, .ref (ad (0))), (2, .ref (bd (0))), (0, .ref b)]) hx hb dL_law_41 hl (by decide) rfl (fun ls hl => ?_)
  have hrd9 : -1000000000 ≤ rd.toInt ∧ rd.toInt ≤ 1000000000 := by omega
  refine lv_aload_n hx hb dL_law_43 rfl (lv_at hl 3 rfl) ?_
  refine lv_iload hx hb dL_law_44 (lv_at hl 0 rfl) ?_
  refine kWi hx hb hml hown hts hK hP0 hS hKX hNC hA0 (As := [.ref (ad (0)), .int rd]) (rest := []) (c_L_started l hfl dC dI cA ad hI0 _ rd) (mkSW hts q_239 q_24 q_237 q_238 hyL_started rfl rfl ⟨(Nat.le_of_ble_eq_true rfl), (Nat.le_of_ble_eq_true rfl)⟩) rfl hl.1 rfl (Nat.le_of_ble_eq_true rfl) dL_law_46 ⟨by show ca + 1 ≤ 883483; omega, by show sl + 6 ≤ 6451176; omega⟩ (fun r u H locs hw hP0 hS _ hkp => ?_)
  have hP1 := wld_kept hP1 (B := adS 69 ad) (fun k hk9 ⟨j, hj, e⟩ => hab j k hj hk9 e.symm) hkp
  obtain ⟨er, hC0⟩ := sp_started hC0 hrd9 hw
  refine w_eqi er ?_
  refine j0_ne (tgt := 65) hx hb dL_law_49 (by decide) (fun _ => ?_) (fun ck => absurd ((by decide)) ck)
  refine lv_aload_n hx hb dL_law_52 rfl (lv_at hl 4 rfl) ?_
  refine lv_iload hx hb dL_law_53 (lv_at hl 0 rfl) ?_
  refine kWi hx hb hml hown hts hK hP1 hS hKX hNC hA1 (As := [.ref (bd (0)), .int rd]) (rest := []) (c_L_started l hfl dC dI cA bd hI1 _ rd) (mkSW hts q_239 q_24 q_237 q_238 hyL_started rfl rfl ⟨(Nat.le_of_ble_eq_true rfl), (Nat.le_of_ble_eq_true rfl)⟩) rfl hl.1 rfl (Nat.le_of_ble_eq_true rfl) dL_law_55 ⟨by show ca + 1 + 1 ≤ 883483; omega, by show sl + 6 + 6 ≤ 6451176; omega⟩ (fun r u H locs hw hP1 hS _ hkp => ?_)
  have hP0 := wld_kept hP0 (B := adS 69 bd) (fun k hk9 ⟨j, hj, e⟩ => hab k j hk9 hj e) hkp
  obtain ⟨er, hC1⟩ := sp_started hC1 hrd9 hw
  refine w_eqi er ?_
  refine j0_ne (tgt := 65) hx hb dL_law_58 (by decide) (fun _ => ?_) (fun ck => absurd ((by decide)) ck)
  refine lv_iconst (v := 1) hx hb dL_law_61 (by decide) ?_
  refine lv_goto (tgt := 66) hx hb dL_law_62 (by decide) ?_
  refine lv_istore (lv' := [(6, .int (1 : Int32)), (5, .int rd), (4, .int things), (3, .int start), (1, .ref (ad (0))), (2, .ref (bd (0))), (0, .ref b)]) hx hb dL_law_66 hl (by decide) rfl (fun ls hl => ?_)
  refine lv_iconst (v := 0) hx hb dL_law_68 (by decide) ?_
  refine lv_istore (lv' := [(7, .int (0 : Int32)), (6, .int (1 : Int32)), (5, .int rd), (4, .int things), (3, .int start), (1, .ref (ad (0))), (2, .ref (bd (0))), (0, .ref b)]) hx hb dL_law_69 hl (by decide) rfl (fun ls hl => ?_)
  exact s_law_71 C ha ha2 hab hX hbl hL hNG hret hlocks hstart hthings 41 0 _ _ _ _ _ _ _ _ _ (by omega) (by omega) (by rw [(st_hs (Mm := Mm) hrd9).1.1]; omega) hC0 hC1 hP0 hP1 hS (lv_sub hl [0, 1, 3, 4, 5, 6, 7] rfl) (by omega) (by omega)
