/-! alike: two clients answer the same -/
set_option maxHeartbeats 4000000 in
set_option maxRecDepth 100000 in
theorem s_alike_156 {p : Program} {l : Launch} {e : Env} {s : State} {m : MethodId} {args : Array Value} {below : List Frame} {meth : Method} {c : Code} {dC : Nat → ClassId} {dI : Nat → Nat → Nat} {cA : Nat → ClassId} {A : Nat → Prop} {ad bd : Nat → Nat} {Mm : Mem} {t : Int32}  (C : LK p l s m c args cL_alike 4 dC dI cA A) (ha : CA A ad) (ha2 : CA A bd) (hab : AP ad bd)  {Q : State → Prop} (kend : ∀ (rpc : Nat), decode cL_alike rpc = .ok (.ireturn, 1) → ∀ (M N : Mem) (H : Heap) (locs : List Loc) (ls : Array Slot) (ca sl : Nat), CL Mm t M ∧ CL Mm t N → va_P (dC, dI) vwCl (wld 69 layC cA ad M) H → va_P (dC, dI) vwCl (wld 69 layC cA bd N) H → va_S A s.heap H locs → ca ≤ 90 → sl ≤ 540 → W p l e ({ frames := 11, cells := 90, slots := 540, locals := 300 } : Room) s m args below meth c H locs ca sl Q (F0 m rpc ls [.int 1])) :
    ∀ (r i : Nat) (M N : Mem) (H : Heap) (locs : List Loc) (ls : Array Slot) (ca sl : Nat), i + r = 9 → i ≤ sn Mm →  CL Mm t M → CL Mm t N → va_P (dC, dI) vwCl (wld 69 layC cA ad M) H → va_P (dC, dI) vwCl (wld 69 layC cA bd N) H → va_S A s.heap H locs → lv_has ls 4 [(3, .int (nI i)), (2, .int (1 : Int32)), (0, .ref (ad (0))), (1, .ref (bd (0)))] → ca ≤ 2 + 10 * i → sl ≤ 6 * (2 + 10 * i) → W p l e ({ frames := 11, cells := 90, slots := 540, locals := 300 } : Room) s m args below meth c H locs ca sl Q (F0 m 156 ls []) := by
  obtain ⟨hx, hb, hml, hown, hts, hK, hKX, hNC, hfl⟩ := id C
  obtain ⟨hI0, hA0⟩ := id ha
  obtain ⟨hI1, hA1⟩ := id ha2
  intro r
  induction r with
  | zero =>
    intro i M N H locs ls ca sl hir his hC0
    have := hC0.s8
    omega
  | succ r ih =>
    intro i M N H locs ls ca sl hir his hC0 hC1 hP0 hP1 hS hl hca hsl
    refine lv_iload_n hx hb dL_alike_156 rfl (lv_at hl 0 rfl) ?_
    refine lv_aload_n hx hb dL_alike_157 rfl (lv_at hl 2 rfl) ?_
    refine kVi hx hb hml hown hts hK hP0 hS hA0 (As := []) (rest := [.int (nI i)]) (c_X5_servers l dC dI cA ad hI0 _ ) (mkV hts q_325 q_25 q_322 q_323 q_324 hyX5_servers rfl rfl ⟨(Nat.le_of_ble_eq_true rfl), (Nat.le_of_ble_eq_true rfl)⟩) (w_recv hK hP0 (k := 0) (by decide) lyC0 (q := (RX5, TX5, 10)) rfl) rfl hl.1 rfl (Nat.le_of_ble_eq_true rfl) dL_alike_158 ⟨by show ca ≤ 90; omega, by show sl ≤ 540; omega⟩ (fun r u H locs hw hP0 hS _ hkp => ?_)
    have hP1 := wld_kept hP1 (B := adS 69 ad) (fun k hk9 ⟨j, hj, e⟩ => hab j k hj hk9 e.symm) hkp
    obtain ⟨er, hC0⟩ := sp_servers hC0 hw
    refine w_eqi er ?_
    refine jI_ge (tgt := 221) hx hb dL_alike_161 (by decide) (fun c161 => ?_) (fun c161 => ?_)
    · have hk : i < sn Mm := nI_lt8 c161 (by have := hC0.s8; omega) (by have := hC0.s8; omega)
      have h8 := hC0.s8
      refine lv_iload_n hx hb dL_alike_164 rfl (lv_at hl 1 rfl) ?_
      refine j0_eq (tgt := 221) hx hb dL_alike_165 (by decide) (fun ck => absurd ck ((by decide))) (fun _ => ?_)
      refine lv_aload_n hx hb dL_alike_168 rfl (lv_at hl 2 rfl) ?_
      refine lv_iload_n hx hb dL_alike_169 rfl (lv_at hl 0 rfl) ?_
      refine kWi hx hb hml hown hts hK hP0 hS hKX hNC hA0 (As := [.ref (ad (0)), .int (nI i)]) (rest := []) (c_L_samples l hfl dC dI cA ad hI0 _ (nI i)) (mkSW hts q_509 q_24 q_507 q_508 hyL_samples rfl rfl ⟨(Nat.le_of_ble_eq_true rfl), (Nat.le_of_ble_eq_true rfl)⟩) rfl hl.1 rfl (Nat.le_of_ble_eq_true rfl) dL_alike_170 ⟨by show ca + 1 ≤ 90; omega, by show sl + 6 ≤ 540; omega⟩ (fun r u H locs hw hP0 hS _ hkp => ?_)
      have hP1 := wld_kept hP1 (B := adS 69 ad) (fun k hk9 ⟨j, hj, e⟩ => hab j k hj hk9 e.symm) hkp
      obtain ⟨er, hC0⟩ := sp_samples hC0 hk hw
      refine w_eqi er ?_
      refine lv_aload_n hx hb dL_alike_173 rfl (lv_at hl 3 rfl) ?_
      refine lv_iload_n hx hb dL_alike_174 rfl (lv_at hl 0 rfl) ?_
      refine kWi hx hb hml hown hts hK hP1 hS hKX hNC hA1 (As := [.ref (bd (0)), .int (nI i)]) (rest := [.int (nI (kn Mm i))]) (c_L_samples l hfl dC dI cA bd hI1 _ (nI i)) (mkSW hts q_509 q_24 q_507 q_508 hyL_samples rfl rfl ⟨(Nat.le_of_ble_eq_true rfl), (Nat.le_of_ble_eq_true rfl)⟩) rfl hl.1 rfl (Nat.le_of_ble_eq_true rfl) dL_alike_175 ⟨by show ca + 1 + 1 ≤ 90; omega, by show sl + 6 + 6 ≤ 540; omega⟩ (fun r u H locs hw hP1 hS _ hkp => ?_)
      have hP0 := wld_kept hP0 (B := adS 69 bd) (fun k hk9 ⟨j, hj, e⟩ => hab k j hk9 hj e) hkp
      obtain ⟨er, hC1⟩ := sp_samples hC1 hk hw
      refine w_eqi er ?_
      refine jI_ne (tgt := 213) hx hb dL_alike_178 (by decide) (fun _ => ?_) (fun ck => absurd (rfl) ck)
      refine lv_aload_n hx hb dL_alike_181 rfl (lv_at hl 2 rfl) ?_
      refine lv_iload_n hx hb dL_alike_182 rfl (lv_at hl 0 rfl) ?_
      refine kWl hx hb hml hown hts hK hP0 hS hKX hNC hA0 (As := [.ref (ad (0)), .int (nI i)]) (rest := []) (c_L_offset l hfl dC dI cA ad hI0 _ (nI i)) (mkSW hts q_520 q_24 q_518 q_519 hyL_offset rfl rfl ⟨(Nat.le_of_ble_eq_true rfl), (Nat.le_of_ble_eq_true rfl)⟩) rfl hl.1 rfl (Nat.le_of_ble_eq_true rfl) dL_alike_183 ⟨by show ca + 1 + 1 + 2 ≤ 90; omega, by show sl + 6 + 6 + 12 ≤ 540; omega⟩ (fun r u H locs hw hP0 hS _ hkp => ?_)
      have hP1 := wld_kept hP1 (B := adS 69 ad) (fun k hk9 ⟨j, hj, e⟩ => hab j k hj hk9 e.symm) hkp
      obtain ⟨er, hC0⟩ := sp_offset hC0 hk hw
      refine w_eql er ?_
      refine lv_aload_n hx hb dL_alike_186 rfl (lv_at hl 3 rfl) ?_
      refine lv_iload_n hx hb dL_alike_187 rfl (lv_at hl 0 rfl) ?_
      refine kWl hx hb hml hown hts hK hP1 hS hKX hNC hA1 (As := [.ref (bd (0)), .int (nI i)]) (rest := [.long (oA Mm i)]) (c_L_offset l hfl dC dI cA bd hI1 _ (nI i)) (mkSW hts q_520 q_24 q_518 q_519 hyL_offset rfl rfl ⟨(Nat.le_of_ble_eq_true rfl), (Nat.le_of_ble_eq_true rfl)⟩) rfl hl.1 rfl (Nat.le_of_ble_eq_true rfl) dL_alike_188 ⟨by show ca + 1 + 1 + 2 + 2 ≤ 90; omega, by show sl + 6 + 6 + 12 + 12 ≤ 540; omega⟩ (fun r u H locs hw hP1 hS _ hkp => ?_)
      have hP0 := wld_kept hP0 (B := adS 69 bd) (fun k hk9 ⟨j, hj, e⟩ => hab k j hk9 hj e) hkp
      obtain ⟨er, hC1⟩ := sp_offset hC1 hk hw
      refine w_eql er ?_
      refine jL_ne (tgt := 213) hx hb dL_alike_191 dL_alike_192 (by decide) (fun _ => ?_) (fun ck => absurd (rfl) ck)
      refine lv_aload_n hx hb dL_alike_195 rfl (lv_at hl 2 rfl) ?_
      refine lv_iload_n hx hb dL_alike_196 rfl (lv_at hl 0 rfl) ?_
      refine kWl hx hb hml hown hts hK hP0 hS hKX hNC hA0 (As := [.ref (ad (0)), .int (nI i)]) (rest := []) (c_L_distance l hfl dC dI cA ad hI0 _ (nI i)) (mkSW hts q_560 q_24 q_558 q_559 hyL_distance rfl rfl ⟨(Nat.le_of_ble_eq_true rfl), (Nat.le_of_ble_eq_true rfl)⟩) rfl hl.1 rfl (Nat.le_of_ble_eq_true rfl) dL_alike_197 ⟨by show ca + 1 + 1 + 2 + 2 + 2 ≤ 90; omega, by show sl + 6 + 6 + 12 + 12 + 12 ≤ 540; omega⟩ (fun r u H locs hw hP0 hS _ hkp => ?_)
      have hP1 := wld_kept hP1 (B := adS 69 ad) (fun k hk9 ⟨j, hj, e⟩ => hab j k hj hk9 e.symm) hkp
      obtain ⟨er, hC0⟩ := sp_distance hC0 hk hw
      refine w_eql er ?_
      refine lv_aload_n hx hb dL_alike_200 rfl (lv_at hl 3 rfl) ?_
      refine lv_iload_n hx hb dL_alike_201 rfl (lv_at hl 0 rfl) ?_
      refine kWl hx hb hml hown hts hK hP1 hS hKX hNC hA1 (As := [.ref (bd (0)), .int (nI i)]) (rest := [.long (tA Mm i)]) (c_L_distance l hfl dC dI cA bd hI1 _ (nI i)) (mkSW hts q_560 q_24 q_558 q_559 hyL_distance rfl rfl ⟨(Nat.le_of_ble_eq_true rfl), (Nat.le_of_ble_eq_true rfl)⟩) rfl hl.1 rfl (Nat.le_of_ble_eq_true rfl) dL_alike_202 ⟨by show ca + 1 + 1 + 2 + 2 + 2 + 2 ≤ 90; omega, by show sl + 6 + 6 + 12 + 12 + 12 + 12 ≤ 540; omega⟩ (fun r u H locs hw hP1 hS _ hkp => ?_)
      have hP0 := wld_kept hP0 (B := adS 69 bd) (fun k hk9 ⟨j, hj, e⟩ => hab k j hk9 hj e) hkp
      obtain ⟨er, hC1⟩ := sp_distance hC1 hk hw
      refine w_eql er ?_
      refine jL_ne (tgt := 213) hx hb dL_alike_205 dL_alike_206 (by decide) (fun _ => ?_) (fun ck => absurd (rfl) ck)
      refine lv_iconst (v := 1) hx hb dL_alike_209 (by decide) ?_
      refine lv_goto (tgt := 214) hx hb dL_alike_210 (by decide) ?_
      refine lv_istore_n (lv' := [(2, .int (1 : Int32)), (3, .int (nI i)), (0, .ref (ad (0))), (1, .ref (bd (0)))]) hx hb dL_alike_214 rfl hl (by decide) rfl (fun ls hl => ?_)
      refine lv_iinc (v := nI (i + 1)) (lv' := [(3, .int (nI (i + 1))), (2, .int (1 : Int32)), (0, .ref (ad (0))), (1, .ref (bd (0)))]) hx hb dL_alike_215 hl (k := 1) rfl (show nI (i) + 1 = nI (i + 1) from nI_1 _) (by decide) rfl (fun ls hl => ?_)
      refine lv_goto (tgt := 156) hx hb dL_alike_218 (by decide) ?_
      exact ih (i + 1) _ _ _ _ _ _ _ (by omega) (by omega) hC0 hC1 hP0 hP1 hS (lv_sub hl [0, 1, 2, 3] rfl) (by omega) (by omega)
    · have h8 := hC0.s8
      refine lv_iload_n hx hb dL_alike_221 rfl (lv_at hl 1 rfl) ?_
      exact kend 222 dL_alike_222 _ _ _ _ _ _ _ (⟨hC0, hC1⟩) hP0 hP1 hS (by omega) (by omega)
set_option maxHeartbeats 4000000 in
set_option maxRecDepth 100000 in
theorem s_alike_0 {p : Program} {l : Launch} {e : Env} {s : State} {m : MethodId} {args : Array Value} {below : List Frame} {meth : Method} {c : Code} {dC : Nat → ClassId} {dI : Nat → Nat → Nat} {cA : Nat → ClassId} {A : Nat → Prop} {ad bd : Nat → Nat} {Mm : Mem} {t : Int32}  (C : LK p l s m c args cL_alike 4 dC dI cA A) (ha : CA A ad) (ha2 : CA A bd) (hab : AP ad bd)  {Q : State → Prop} (kend : ∀ (rpc : Nat), decode cL_alike rpc = .ok (.ireturn, 1) → ∀ (M N : Mem) (H : Heap) (locs : List Loc) (ls : Array Slot) (ca sl : Nat), CL Mm t M ∧ CL Mm t N → va_P (dC, dI) vwCl (wld 69 layC cA ad M) H → va_P (dC, dI) vwCl (wld 69 layC cA bd N) H → va_S A s.heap H locs → ca ≤ 90 → sl ≤ 540 → W p l e ({ frames := 11, cells := 90, slots := 540, locals := 300 } : Room) s m args below meth c H locs ca sl Q (F0 m rpc ls [.int 1])) :
    ∀  (M N : Mem) (H : Heap) (locs : List Loc) (ls : Array Slot) (ca sl : Nat),  CL Mm t M → CL Mm t N → va_P (dC, dI) vwCl (wld 69 layC cA ad M) H → va_P (dC, dI) vwCl (wld 69 layC cA bd N) H → va_S A s.heap H locs → lv_has ls 4 [(0, .ref (ad (0))), (1, .ref (bd (0)))] → ca ≤ 0 → sl ≤ 0 → W p l e ({ frames := 11, cells := 90, slots := 540, locals := 300 } : Room) s m args below meth c H locs ca sl Q (F0 m 0 ls []) := by
  obtain ⟨hx, hb, hml, hown, hts, hK, hKX, hNC, hfl⟩ := id C
  obtain ⟨hI0, hA0⟩ := id ha
  obtain ⟨hI1, hA1⟩ := id ha2
  intro  M N H locs ls ca sl  hC0 hC1 hP0 hP1 hS hl hca hsl
  refine lv_aload_n hx hb dL_alike_0 rfl (lv_at hl 0 rfl) ?_
  refine kVl hx hb hml hown hts hK hP0 hS hA0 (As := []) (rest := []) (c_X5_trueTime l dC dI cA ad hI0 _ ) (mkV hts q_760 q_25 q_757 q_758 q_759 hyX5_trueTime rfl rfl ⟨(Nat.le_of_ble_eq_true rfl), (Nat.le_of_ble_eq_true rfl)⟩) (w_recv hK hP0 (k := 0) (by decide) lyC0 (q := (RX5, TX5, 10)) rfl) rfl hl.1 rfl (Nat.le_of_ble_eq_true rfl) dL_alike_1 ⟨by show ca ≤ 90; omega, by show sl ≤ 540; omega⟩ (fun r u H locs hw hP0 hS _ hkp => ?_)
  have hP1 := wld_kept hP1 (B := adS 69 ad) (fun k hk9 ⟨j, hj, e⟩ => hab j k hj hk9 e.symm) hkp
  obtain ⟨er, hC0⟩ := sp_true hC0 hw
  refine w_eql er ?_
  refine lv_aload_n hx hb dL_alike_4 rfl (lv_at hl 1 rfl) ?_
  refine kVl hx hb hml hown hts hK hP1 hS hA1 (As := []) (rest := [.long (gL Mm 0)]) (c_X5_trueTime l dC dI cA bd hI1 _ ) (mkV hts q_760 q_25 q_757 q_758 q_759 hyX5_trueTime rfl rfl ⟨(Nat.le_of_ble_eq_true rfl), (Nat.le_of_ble_eq_true rfl)⟩) (w_recv hK hP1 (k := 0) (by decide) lyC0 (q := (RX5, TX5, 10)) rfl) rfl hl.1 rfl (Nat.le_of_ble_eq_true rfl) dL_alike_5 ⟨by show ca ≤ 90; omega, by show sl ≤ 540; omega⟩ (fun r u H locs hw hP1 hS _ hkp => ?_)
  have hP0 := wld_kept hP0 (B := adS 69 bd) (fun k hk9 ⟨j, hj, e⟩ => hab k j hk9 hj e) hkp
  obtain ⟨er, hC1⟩ := sp_true hC1 hw
  refine w_eql er ?_
  refine jL_ne (tgt := 152) hx hb dL_alike_8 dL_alike_9 (by decide) (fun _ => ?_) (fun ck => absurd (rfl) ck)
  refine lv_aload_n hx hb dL_alike_12 rfl (lv_at hl 0 rfl) ?_
  refine kVl hx hb hml hown hts hK hP0 hS hA0 (As := []) (rest := []) (c_X5_clock l dC dI cA ad hI0 _ ) (mkV hts q_208 q_25 q_205 q_206 q_207 hyX5_clock rfl rfl ⟨(Nat.le_of_ble_eq_true rfl), (Nat.le_of_ble_eq_true rfl)⟩) (w_recv hK hP0 (k := 0) (by decide) lyC0 (q := (RX5, TX5, 10)) rfl) rfl hl.1 rfl (Nat.le_of_ble_eq_true rfl) dL_alike_13 ⟨by show ca ≤ 90; omega, by show sl ≤ 540; omega⟩ (fun r u H locs hw hP0 hS _ hkp => ?_)
  have hP1 := wld_kept hP1 (B := adS 69 ad) (fun k hk9 ⟨j, hj, e⟩ => hab j k hj hk9 e.symm) hkp
  obtain ⟨er, hC0⟩ := sp_clock hC0 hw
  refine w_eql er ?_
  refine lv_aload_n hx hb dL_alike_16 rfl (lv_at hl 1 rfl) ?_
  refine kVl hx hb hml hown hts hK hP1 hS hA1 (As := []) (rest := [.long (f_X6_reading Mm)]) (c_X5_clock l dC dI cA bd hI1 _ ) (mkV hts q_208 q_25 q_205 q_206 q_207 hyX5_clock rfl rfl ⟨(Nat.le_of_ble_eq_true rfl), (Nat.le_of_ble_eq_true rfl)⟩) (w_recv hK hP1 (k := 0) (by decide) lyC0 (q := (RX5, TX5, 10)) rfl) rfl hl.1 rfl (Nat.le_of_ble_eq_true rfl) dL_alike_17 ⟨by show ca ≤ 90; omega, by show sl ≤ 540; omega⟩ (fun r u H locs hw hP1 hS _ hkp => ?_)
  have hP0 := wld_kept hP0 (B := adS 69 bd) (fun k hk9 ⟨j, hj, e⟩ => hab k j hk9 hj e) hkp
  obtain ⟨er, hC1⟩ := sp_clock hC1 hw
  refine w_eql er ?_
  refine jL_ne (tgt := 152) hx hb dL_alike_20 dL_alike_21 (by decide) (fun _ => ?_) (fun ck => absurd (rfl) ck)
  refine lv_aload_n hx hb dL_alike_24 rfl (lv_at hl 0 rfl) ?_
  refine kVl hx hb hml hown hts hK hP0 hS hA0 (As := []) (rest := []) (c_X5_civil l dC dI cA ad hI0 _ ) (mkV hts q_219 q_25 q_216 q_217 q_218 hyX5_civil rfl rfl ⟨(Nat.le_of_ble_eq_true rfl), (Nat.le_of_ble_eq_true rfl)⟩) (w_recv hK hP0 (k := 0) (by decide) lyC0 (q := (RX5, TX5, 10)) rfl) rfl hl.1 rfl (Nat.le_of_ble_eq_true rfl) dL_alike_25 ⟨by show ca ≤ 90; omega, by show sl ≤ 540; omega⟩ (fun r u H locs hw hP0 hS _ hkp => ?_)
  have hP1 := wld_kept hP1 (B := adS 69 ad) (fun k hk9 ⟨j, hj, e⟩ => hab j k hj hk9 e.symm) hkp
  obtain ⟨er, hC0⟩ := sp_civil hC0 hw
  refine w_eql er ?_
  refine lv_aload_n hx hb dL_alike_28 rfl (lv_at hl 1 rfl) ?_
  refine kVl hx hb hml hown hts hK hP1 hS hA1 (As := []) (rest := [.long (civ Mm)]) (c_X5_civil l dC dI cA bd hI1 _ ) (mkV hts q_219 q_25 q_216 q_217 q_218 hyX5_civil rfl rfl ⟨(Nat.le_of_ble_eq_true rfl), (Nat.le_of_ble_eq_true rfl)⟩) (w_recv hK hP1 (k := 0) (by decide) lyC0 (q := (RX5, TX5, 10)) rfl) rfl hl.1 rfl (Nat.le_of_ble_eq_true rfl) dL_alike_29 ⟨by show ca ≤ 90; omega, by show sl ≤ 540; omega⟩ (fun r u H locs hw hP1 hS _ hkp => ?_)
  have hP0 := wld_kept hP0 (B := adS 69 bd) (fun k hk9 ⟨j, hj, e⟩ => hab k j hk9 hj e) hkp
  obtain ⟨er, hC1⟩ := sp_civil hC1 hw
  refine w_eql er ?_
  refine jL_ne (tgt := 152) hx hb dL_alike_32 dL_alike_33 (by decide) (fun _ => ?_) (fun ck => absurd (rfl) ck)
  refine lv_aload_n hx hb dL_alike_36 rfl (lv_at hl 0 rfl) ?_
  refine kVl hx hb hml hown hts hK hP0 hS hA0 (As := []) (rest := []) (c_X5_pendingSlew l dC dI cA ad hI0 _ ) (mkV hts q_764 q_25 q_761 q_762 q_763 hyX5_pendingSlew rfl rfl ⟨(Nat.le_of_ble_eq_true rfl), (Nat.le_of_ble_eq_true rfl)⟩) (w_recv hK hP0 (k := 0) (by decide) lyC0 (q := (RX5, TX5, 10)) rfl) rfl hl.1 rfl (Nat.le_of_ble_eq_true rfl) dL_alike_37 ⟨by show ca ≤ 90; omega, by show sl ≤ 540; omega⟩ (fun r u H locs hw hP0 hS _ hkp => ?_)
  have hP1 := wld_kept hP1 (B := adS 69 ad) (fun k hk9 ⟨j, hj, e⟩ => hab j k hj hk9 e.symm) hkp
  obtain ⟨er, hC0⟩ := sp_pend hC0 hw
  refine w_eql er ?_
  refine lv_aload_n hx hb dL_alike_40 rfl (lv_at hl 1 rfl) ?_
  refine kVl hx hb hml hown hts hK hP1 hS hA1 (As := []) (rest := [.long (gL Mm 2 / 1000000)]) (c_X5_pendingSlew l dC dI cA bd hI1 _ ) (mkV hts q_764 q_25 q_761 q_762 q_763 hyX5_pendingSlew rfl rfl ⟨(Nat.le_of_ble_eq_true rfl), (Nat.le_of_ble_eq_true rfl)⟩) (w_recv hK hP1 (k := 0) (by decide) lyC0 (q := (RX5, TX5, 10)) rfl) rfl hl.1 rfl (Nat.le_of_ble_eq_true rfl) dL_alike_41 ⟨by show ca ≤ 90; omega, by show sl ≤ 540; omega⟩ (fun r u H locs hw hP1 hS _ hkp => ?_)
  have hP0 := wld_kept hP0 (B := adS 69 bd) (fun k hk9 ⟨j, hj, e⟩ => hab k j hk9 hj e) hkp
  obtain ⟨er, hC1⟩ := sp_pend hC1 hw
  refine w_eql er ?_
  refine jL_ne (tgt := 152) hx hb dL_alike_44 dL_alike_45 (by decide) (fun _ => ?_) (fun ck => absurd (rfl) ck)
  refine lv_aload_n hx hb dL_alike_48 rfl (lv_at hl 0 rfl) ?_
  refine kVi hx hb hml hown hts hK hP0 hS hA0 (As := []) (rest := []) (c_X5_correction l dC dI cA ad hI0 _ ) (mkV hts q_772 q_25 q_769 q_770 q_771 hyX5_correction rfl rfl ⟨(Nat.le_of_ble_eq_true rfl), (Nat.le_of_ble_eq_true rfl)⟩) (w_recv hK hP0 (k := 0) (by decide) lyC0 (q := (RX5, TX5, 10)) rfl) rfl hl.1 rfl (Nat.le_of_ble_eq_true rfl) dL_alike_49 ⟨by show ca ≤ 90; omega, by show sl ≤ 540; omega⟩ (fun r u H locs hw hP0 hS _ hkp => ?_)
  have hP1 := wld_kept hP1 (B := adS 69 ad) (fun k hk9 ⟨j, hj, e⟩ => hab j k hj hk9 e.symm) hkp
  obtain ⟨er, hC0⟩ := sp_corr hC0 hw
  refine w_eqi er ?_
  refine lv_aload_n hx hb dL_alike_52 rfl (lv_at hl 1 rfl) ?_
  refine kVi hx hb hml hown hts hK hP1 hS hA1 (As := []) (rest := [.int (gI Mm 2)]) (c_X5_correction l dC dI cA bd hI1 _ ) (mkV hts q_772 q_25 q_769 q_770 q_771 hyX5_correction rfl rfl ⟨(Nat.le_of_ble_eq_true rfl), (Nat.le_of_ble_eq_true rfl)⟩) (w_recv hK hP1 (k := 0) (by decide) lyC0 (q := (RX5, TX5, 10)) rfl) rfl hl.1 rfl (Nat.le_of_ble_eq_true rfl) dL_alike_53 ⟨by show ca ≤ 90; omega, by show sl ≤ 540; omega⟩ (fun r u H locs hw hP1 hS _ hkp => ?_)
  have hP0 := wld_kept hP0 (B := adS 69 bd) (fun k hk9 ⟨j, hj, e⟩ => hab k j hk9 hj e) hkp
  obtain ⟨er, hC1⟩ := sp_corr hC1 hw
  refine w_eqi er ?_
  refine jI_ne (tgt := 152) hx hb dL_alike_56 (by decide) (fun _ => ?_) (fun ck => absurd (rfl) ck)
  refine lv_aload_n hx hb dL_alike_59 rfl (lv_at hl 0 rfl) ?_
  refine kVi hx hb hml hown hts hK hP0 hS hA0 (As := []) (rest := []) (c_X5_servers l dC dI cA ad hI0 _ ) (mkV hts q_325 q_25 q_322 q_323 q_324 hyX5_servers rfl rfl ⟨(Nat.le_of_ble_eq_true rfl), (Nat.le_of_ble_eq_true rfl)⟩) (w_recv hK hP0 (k := 0) (by decide) lyC0 (q := (RX5, TX5, 10)) rfl) rfl hl.1 rfl (Nat.le_of_ble_eq_true rfl) dL_alike_60 ⟨by show ca ≤ 90; omega, by show sl ≤ 540; omega⟩ (fun r u H locs hw hP0 hS _ hkp => ?_)
  have hP1 := wld_kept hP1 (B := adS 69 ad) (fun k hk9 ⟨j, hj, e⟩ => hab j k hj hk9 e.symm) hkp
  obtain ⟨er, hC0⟩ := sp_servers hC0 hw
  refine w_eqi er ?_
  refine lv_aload_n hx hb dL_alike_63 rfl (lv_at hl 1 rfl) ?_
  refine kVi hx hb hml hown hts hK hP1 hS hA1 (As := []) (rest := [.int (nI (sn Mm))]) (c_X5_servers l dC dI cA bd hI1 _ ) (mkV hts q_325 q_25 q_322 q_323 q_324 hyX5_servers rfl rfl ⟨(Nat.le_of_ble_eq_true rfl), (Nat.le_of_ble_eq_true rfl)⟩) (w_recv hK hP1 (k := 0) (by decide) lyC0 (q := (RX5, TX5, 10)) rfl) rfl hl.1 rfl (Nat.le_of_ble_eq_true rfl) dL_alike_64 ⟨by show ca ≤ 90; omega, by show sl ≤ 540; omega⟩ (fun r u H locs hw hP1 hS _ hkp => ?_)
  have hP0 := wld_kept hP0 (B := adS 69 bd) (fun k hk9 ⟨j, hj, e⟩ => hab k j hk9 hj e) hkp
  obtain ⟨er, hC1⟩ := sp_servers hC1 hw
  refine w_eqi er ?_
  refine jI_ne (tgt := 152) hx hb dL_alike_67 (by decide) (fun _ => ?_) (fun ck => absurd (rfl) ck)
  refine lv_aload_n hx hb dL_alike_70 rfl (lv_at hl 0 rfl) ?_
  refine kVi hx hb hml hown hts hK hP0 hS hA0 (As := []) (rest := []) (c_X5_agreeing l dC dI cA ad hI0 _ ) (mkV hts q_780 q_25 q_777 q_778 q_779 hyX5_agreeing rfl rfl ⟨(Nat.le_of_ble_eq_true rfl), (Nat.le_of_ble_eq_true rfl)⟩) (w_recv hK hP0 (k := 0) (by decide) lyC0 (q := (RX5, TX5, 10)) rfl) rfl hl.1 rfl (Nat.le_of_ble_eq_true rfl) dL_alike_71 ⟨by show ca ≤ 90; omega, by show sl ≤ 540; omega⟩ (fun r u H locs hw hP0 hS _ hkp => ?_)
  have hP1 := wld_kept hP1 (B := adS 69 ad) (fun k hk9 ⟨j, hj, e⟩ => hab j k hj hk9 e.symm) hkp
  obtain ⟨er, hC0⟩ := sp_agreeing hC0 hw
  refine w_eqi er ?_
  refine lv_aload_n hx hb dL_alike_74 rfl (lv_at hl 1 rfl) ?_
  refine kVi hx hb hml hown hts hK hP1 hS hA1 (As := []) (rest := [.int (agS Mm)]) (c_X5_agreeing l dC dI cA bd hI1 _ ) (mkV hts q_780 q_25 q_777 q_778 q_779 hyX5_agreeing rfl rfl ⟨(Nat.le_of_ble_eq_true rfl), (Nat.le_of_ble_eq_true rfl)⟩) (w_recv hK hP1 (k := 0) (by decide) lyC0 (q := (RX5, TX5, 10)) rfl) rfl hl.1 rfl (Nat.le_of_ble_eq_true rfl) dL_alike_75 ⟨by show ca ≤ 90; omega, by show sl ≤ 540; omega⟩ (fun r u H locs hw hP1 hS _ hkp => ?_)
  have hP0 := wld_kept hP0 (B := adS 69 bd) (fun k hk9 ⟨j, hj, e⟩ => hab k j hk9 hj e) hkp
  obtain ⟨er, hC1⟩ := sp_agreeing hC1 hw
  refine w_eqi er ?_
  refine jI_ne (tgt := 152) hx hb dL_alike_78 (by decide) (fun _ => ?_) (fun ck => absurd (rfl) ck)
  refine lv_aload_n hx hb dL_alike_81 rfl (lv_at hl 0 rfl) ?_
  refine kVi hx hb hml hown hts hK hP0 hS hA0 (As := []) (rest := []) (c_X5_survivors l dC dI cA ad hI0 _ ) (mkV hts q_788 q_25 q_785 q_786 q_787 hyX5_survivors rfl rfl ⟨(Nat.le_of_ble_eq_true rfl), (Nat.le_of_ble_eq_true rfl)⟩) (w_recv hK hP0 (k := 0) (by decide) lyC0 (q := (RX5, TX5, 10)) rfl) rfl hl.1 rfl (Nat.le_of_ble_eq_true rfl) dL_alike_82 ⟨by show ca ≤ 90; omega, by show sl ≤ 540; omega⟩ (fun r u H locs hw hP0 hS _ hkp => ?_)
  have hP1 := wld_kept hP1 (B := adS 69 ad) (fun k hk9 ⟨j, hj, e⟩ => hab j k hj hk9 e.symm) hkp
  obtain ⟨er, hC0⟩ := sp_surv hC0 hw
  refine w_eqi er ?_
  refine lv_aload_n hx hb dL_alike_85 rfl (lv_at hl 1 rfl) ?_
  refine kVi hx hb hml hown hts hK hP1 hS hA1 (As := []) (rest := [.int (svS Mm)]) (c_X5_survivors l dC dI cA bd hI1 _ ) (mkV hts q_788 q_25 q_785 q_786 q_787 hyX5_survivors rfl rfl ⟨(Nat.le_of_ble_eq_true rfl), (Nat.le_of_ble_eq_true rfl)⟩) (w_recv hK hP1 (k := 0) (by decide) lyC0 (q := (RX5, TX5, 10)) rfl) rfl hl.1 rfl (Nat.le_of_ble_eq_true rfl) dL_alike_86 ⟨by show ca ≤ 90; omega, by show sl ≤ 540; omega⟩ (fun r u H locs hw hP1 hS _ hkp => ?_)
  have hP0 := wld_kept hP0 (B := adS 69 bd) (fun k hk9 ⟨j, hj, e⟩ => hab k j hk9 hj e) hkp
  obtain ⟨er, hC1⟩ := sp_surv hC1 hw
  refine w_eqi er ?_
  refine jI_ne (tgt := 152) hx hb dL_alike_89 (by decide) (fun _ => ?_) (fun ck => absurd (rfl) ck)
  refine lv_aload_n hx hb dL_alike_92 rfl (lv_at hl 0 rfl) ?_
  refine kWl hx hb hml hown hts hK hP0 hS hKX hNC hA0 (As := [.ref (ad (0))]) (rest := []) (c_L_combined l hfl dC dI cA ad hI0 _ ) (mkSW hts q_747 q_24 q_745 q_746 hyL_combined rfl rfl ⟨(Nat.le_of_ble_eq_true rfl), (Nat.le_of_ble_eq_true rfl)⟩) rfl hl.1 rfl (Nat.le_of_ble_eq_true rfl) dL_alike_93 ⟨by show ca + 1 ≤ 90; omega, by show sl + 6 ≤ 540; omega⟩ (fun r u H locs hw hP0 hS _ hkp => ?_)
  have hP1 := wld_kept hP1 (B := adS 69 ad) (fun k hk9 ⟨j, hj, e⟩ => hab j k hj hk9 e.symm) hkp
  obtain ⟨er, hC0⟩ := sp_comb hC0 hw
  refine w_eql er ?_
  refine lv_aload_n hx hb dL_alike_96 rfl (lv_at hl 1 rfl) ?_
  refine kWl hx hb hml hown hts hK hP1 hS hKX hNC hA1 (As := [.ref (bd (0))]) (rest := [.long (meA Mm)]) (c_L_combined l hfl dC dI cA bd hI1 _ ) (mkSW hts q_747 q_24 q_745 q_746 hyL_combined rfl rfl ⟨(Nat.le_of_ble_eq_true rfl), (Nat.le_of_ble_eq_true rfl)⟩) rfl hl.1 rfl (Nat.le_of_ble_eq_true rfl) dL_alike_97 ⟨by show ca + 1 + 1 ≤ 90; omega, by show sl + 6 + 6 ≤ 540; omega⟩ (fun r u H locs hw hP1 hS _ hkp => ?_)
  have hP0 := wld_kept hP0 (B := adS 69 bd) (fun k hk9 ⟨j, hj, e⟩ => hab k j hk9 hj e) hkp
  obtain ⟨er, hC1⟩ := sp_comb hC1 hw
  refine w_eql er ?_
  refine jL_ne (tgt := 152) hx hb dL_alike_100 dL_alike_101 (by decide) (fun _ => ?_) (fun ck => absurd (rfl) ck)
  refine lv_aload_n hx hb dL_alike_104 rfl (lv_at hl 0 rfl) ?_
  refine kVi hx hb hml hown hts hK hP0 hS hA0 (As := []) (rest := []) (c_X5_peer l dC dI cA ad hI0 _ ) (mkV hts q_796 q_25 q_793 q_794 q_795 hyX5_peer rfl rfl ⟨(Nat.le_of_ble_eq_true rfl), (Nat.le_of_ble_eq_true rfl)⟩) (w_recv hK hP0 (k := 0) (by decide) lyC0 (q := (RX5, TX5, 10)) rfl) rfl hl.1 rfl (Nat.le_of_ble_eq_true rfl) dL_alike_105 ⟨by show ca + 1 + 1 ≤ 90; omega, by show sl + 6 + 6 ≤ 540; omega⟩ (fun r u H locs hw hP0 hS _ hkp => ?_)
  have hP1 := wld_kept hP1 (B := adS 69 ad) (fun k hk9 ⟨j, hj, e⟩ => hab j k hj hk9 e.symm) hkp
  obtain ⟨er, hC0⟩ := sp_peer hC0 hw
  refine w_eqi er ?_
  refine lv_aload_n hx hb dL_alike_108 rfl (lv_at hl 1 rfl) ?_
  refine kVi hx hb hml hown hts hK hP1 hS hA1 (As := []) (rest := [.int (pe Mm)]) (c_X5_peer l dC dI cA bd hI1 _ ) (mkV hts q_796 q_25 q_793 q_794 q_795 hyX5_peer rfl rfl ⟨(Nat.le_of_ble_eq_true rfl), (Nat.le_of_ble_eq_true rfl)⟩) (w_recv hK hP1 (k := 0) (by decide) lyC0 (q := (RX5, TX5, 10)) rfl) rfl hl.1 rfl (Nat.le_of_ble_eq_true rfl) dL_alike_109 ⟨by show ca + 1 + 1 ≤ 90; omega, by show sl + 6 + 6 ≤ 540; omega⟩ (fun r u H locs hw hP1 hS _ hkp => ?_)
  have hP0 := wld_kept hP0 (B := adS 69 bd) (fun k hk9 ⟨j, hj, e⟩ => hab k j hk9 hj e) hkp
  obtain ⟨er, hC1⟩ := sp_peer hC1 hw
  refine w_eqi er ?_
  refine jI_ne (tgt := 152) hx hb dL_alike_112 (by decide) (fun _ => ?_) (fun ck => absurd (rfl) ck)
  refine lv_aload_n hx hb dL_alike_115 rfl (lv_at hl 0 rfl) ?_
  refine kVi hx hb hml hown hts hK hP0 hS hA0 (As := []) (rest := []) (c_X5_stratum l dC dI cA ad hI0 _ ) (mkV hts q_800 q_25 q_797 q_798 q_799 hyX5_stratum rfl rfl ⟨(Nat.le_of_ble_eq_true rfl), (Nat.le_of_ble_eq_true rfl)⟩) (w_recv hK hP0 (k := 0) (by decide) lyC0 (q := (RX5, TX5, 10)) rfl) rfl hl.1 rfl (Nat.le_of_ble_eq_true rfl) dL_alike_116 ⟨by show ca + 1 + 1 ≤ 90; omega, by show sl + 6 + 6 ≤ 540; omega⟩ (fun r u H locs hw hP0 hS _ hkp => ?_)
  have hP1 := wld_kept hP1 (B := adS 69 ad) (fun k hk9 ⟨j, hj, e⟩ => hab j k hj hk9 e.symm) hkp
  obtain ⟨er, hC0⟩ := sp_stra hC0 hw
  refine w_eqi er ?_
  refine lv_aload_n hx hb dL_alike_119 rfl (lv_at hl 1 rfl) ?_
  refine kVi hx hb hml hown hts hK hP1 hS hA1 (As := []) (rest := [.int t]) (c_X5_stratum l dC dI cA bd hI1 _ ) (mkV hts q_800 q_25 q_797 q_798 q_799 hyX5_stratum rfl rfl ⟨(Nat.le_of_ble_eq_true rfl), (Nat.le_of_ble_eq_true rfl)⟩) (w_recv hK hP1 (k := 0) (by decide) lyC0 (q := (RX5, TX5, 10)) rfl) rfl hl.1 rfl (Nat.le_of_ble_eq_true rfl) dL_alike_120 ⟨by show ca + 1 + 1 ≤ 90; omega, by show sl + 6 + 6 ≤ 540; omega⟩ (fun r u H locs hw hP1 hS _ hkp => ?_)
  have hP0 := wld_kept hP0 (B := adS 69 bd) (fun k hk9 ⟨j, hj, e⟩ => hab k j hk9 hj e) hkp
  obtain ⟨er, hC1⟩ := sp_stra hC1 hw
  refine w_eqi er ?_
  refine jI_ne (tgt := 152) hx hb dL_alike_123 (by decide) (fun _ => ?_) (fun ck => absurd (rfl) ck)
  refine lv_aload_n hx hb dL_alike_126 rfl (lv_at hl 0 rfl) ?_
  refine kVi hx hb hml hown hts hK hP0 hS hA0 (As := []) (rest := []) (c_X5_steps l dC dI cA ad hI0 _ ) (mkV hts q_804 q_25 q_801 q_802 q_803 hyX5_steps rfl rfl ⟨(Nat.le_of_ble_eq_true rfl), (Nat.le_of_ble_eq_true rfl)⟩) (w_recv hK hP0 (k := 0) (by decide) lyC0 (q := (RX5, TX5, 10)) rfl) rfl hl.1 rfl (Nat.le_of_ble_eq_true rfl) dL_alike_127 ⟨by show ca + 1 + 1 ≤ 90; omega, by show sl + 6 + 6 ≤ 540; omega⟩ (fun r u H locs hw hP0 hS _ hkp => ?_)
  have hP1 := wld_kept hP1 (B := adS 69 ad) (fun k hk9 ⟨j, hj, e⟩ => hab j k hj hk9 e.symm) hkp
  obtain ⟨er, hC0⟩ := sp_steps hC0 hw
  refine w_eqi er ?_
  refine lv_aload_n hx hb dL_alike_130 rfl (lv_at hl 1 rfl) ?_
  refine kVi hx hb hml hown hts hK hP1 hS hA1 (As := []) (rest := [.int (gI Mm 3)]) (c_X5_steps l dC dI cA bd hI1 _ ) (mkV hts q_804 q_25 q_801 q_802 q_803 hyX5_steps rfl rfl ⟨(Nat.le_of_ble_eq_true rfl), (Nat.le_of_ble_eq_true rfl)⟩) (w_recv hK hP1 (k := 0) (by decide) lyC0 (q := (RX5, TX5, 10)) rfl) rfl hl.1 rfl (Nat.le_of_ble_eq_true rfl) dL_alike_131 ⟨by show ca + 1 + 1 ≤ 90; omega, by show sl + 6 + 6 ≤ 540; omega⟩ (fun r u H locs hw hP1 hS _ hkp => ?_)
  have hP0 := wld_kept hP0 (B := adS 69 bd) (fun k hk9 ⟨j, hj, e⟩ => hab k j hk9 hj e) hkp
  obtain ⟨er, hC1⟩ := sp_steps hC1 hw
  refine w_eqi er ?_
  refine jI_ne (tgt := 152) hx hb dL_alike_134 (by decide) (fun _ => ?_) (fun ck => absurd (rfl) ck)
  refine lv_aload_n hx hb dL_alike_137 rfl (lv_at hl 0 rfl) ?_
  refine kVi hx hb hml hown hts hK hP0 hS hA0 (As := []) (rest := []) (c_X5_synchronizations l dC dI cA ad hI0 _ ) (mkV hts q_808 q_25 q_805 q_806 q_807 hyX5_synchronizations rfl rfl ⟨(Nat.le_of_ble_eq_true rfl), (Nat.le_of_ble_eq_true rfl)⟩) (w_recv hK hP0 (k := 0) (by decide) lyC0 (q := (RX5, TX5, 10)) rfl) rfl hl.1 rfl (Nat.le_of_ble_eq_true rfl) dL_alike_138 ⟨by show ca + 1 + 1 ≤ 90; omega, by show sl + 6 + 6 ≤ 540; omega⟩ (fun r u H locs hw hP0 hS _ hkp => ?_)
  have hP1 := wld_kept hP1 (B := adS 69 ad) (fun k hk9 ⟨j, hj, e⟩ => hab j k hj hk9 e.symm) hkp
  obtain ⟨er, hC0⟩ := sp_syncs hC0 hw
  refine w_eqi er ?_
  refine lv_aload_n hx hb dL_alike_141 rfl (lv_at hl 1 rfl) ?_
  refine kVi hx hb hml hown hts hK hP1 hS hA1 (As := []) (rest := [.int (gI Mm 4)]) (c_X5_synchronizations l dC dI cA bd hI1 _ ) (mkV hts q_808 q_25 q_805 q_806 q_807 hyX5_synchronizations rfl rfl ⟨(Nat.le_of_ble_eq_true rfl), (Nat.le_of_ble_eq_true rfl)⟩) (w_recv hK hP1 (k := 0) (by decide) lyC0 (q := (RX5, TX5, 10)) rfl) rfl hl.1 rfl (Nat.le_of_ble_eq_true rfl) dL_alike_142 ⟨by show ca + 1 + 1 ≤ 90; omega, by show sl + 6 + 6 ≤ 540; omega⟩ (fun r u H locs hw hP1 hS _ hkp => ?_)
  have hP0 := wld_kept hP0 (B := adS 69 bd) (fun k hk9 ⟨j, hj, e⟩ => hab k j hk9 hj e) hkp
  obtain ⟨er, hC1⟩ := sp_syncs hC1 hw
  refine w_eqi er ?_
  refine jI_ne (tgt := 152) hx hb dL_alike_145 (by decide) (fun _ => ?_) (fun ck => absurd (rfl) ck)
  refine lv_iconst (v := 1) hx hb dL_alike_148 (by decide) ?_
  refine lv_goto (tgt := 153) hx hb dL_alike_149 (by decide) ?_
  refine lv_istore_n (lv' := [(2, .int (1 : Int32)), (0, .ref (ad (0))), (1, .ref (bd (0)))]) hx hb dL_alike_153 rfl hl (by decide) rfl (fun ls hl => ?_)
  refine lv_iconst (v := 0) hx hb dL_alike_154 (by decide) ?_
  refine lv_istore_n (lv' := [(3, .int (0 : Int32)), (2, .int (1 : Int32)), (0, .ref (ad (0))), (1, .ref (bd (0)))]) hx hb dL_alike_155 rfl hl (by decide) rfl (fun ls hl => ?_)
  exact s_alike_156 C ha ha2 hab  kend 9 0 _ _ _ _ _ _ _ (by omega) (by omega) hC0 hC1 hP0 hP1 hS (lv_sub hl [0, 1, 2, 3] rfl) (by omega) (by omega)
theorem hyL_alike : yL_alike.cls ≠ "java/lang/invoke/MethodHandle" ∧ yL_alike.cls ≠ "java/lang/invoke/VarHandle" ∧ (parseMethodDescriptor yL_alike.desc).map (fun d => d.parameters.length) = some 2 := by decide +kernel
set_option maxHeartbeats 4000000 in
set_option maxRecDepth 100000 in
theorem c_L_alike (l : Launch) (hfl : l.stackTraces = false) (dC : Nat → ClassId) (dI : Nat → Nat → Nat) (cA : Nat → ClassId) (ad bd : Nat → Nat) (hI : Inj 69 ad) (hI2 : Inj 69 bd) (hab : AP ad bd) {M N Mm : Mem} {t : Int32} (hC : CL Mm t M) (hD : CL Mm t N)  : Met l yL_alike (.code yL_alike cL_alike 4 (some .boolean) :: AG) ({ frames := 11, cells := 90, slots := 540, locals := 300 } : Room) (va_Pc [.ref (ad (0)), .ref (bd (0))] (PW2 dC dI cA ad bd M N)) (va_Qi (fun r z => r = 1 ∧ CL Mm t z.1 ∧ CL Mm t z.2) (PC2 dC dI cA ad bd) (ad2S ad bd)) 90 540 (ad2S ad bd) := by
  refine yMet2 (by decide) (Nat.le_of_ble_eq_true rfl) ?_
  intro p e s m below meth c ls hx hb hr hml hlocks hown hts hK hP hP2 hS hl hKX hNC
  exact s_alike_0 ⟨hx, hb, hml, hown, hts, hK, hKX, hNC, hfl⟩ ⟨hI, fun _ h => Or.inl h⟩ ⟨hI2, fun _ h => Or.inr h⟩ hab  (fun rpc hd M N H locs ls ca sl hE hP1 hP3 hS1 hca hsl => W.widen hca hsl (W.zret hx hb hr (v := 1) rfl (fun t ht hW => ⟨⟨1, (M, N), rfl, ⟨rfl, hE⟩, by rw [ht]; exact hP1, by rw [ht]; exact hP3⟩, hS1.F ht⟩) hS1.2.2 hd)) M N _ _ _ 0 0 hC hD hP hP2 hS hl (by omega) (by omega)
