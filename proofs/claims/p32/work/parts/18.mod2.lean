def f_X6_best_L10 (M : Mem) (j0 : Nat) : Nat → Nat → Nat → Int32
  | 0, _, _ => 0
  | r + 1, i, b => if nI i < nI ((8 * j0) + (kn M (j0))) then if gJ M 1 (b) < gJ M 1 (i) then f_X6_best_L10 M j0 r (i + 1) b else f_X6_best_L10 M j0 r (i + 1) i else nI b
def f_X6_best (M : Mem) (j0 : Nat) : Int32 := f_X6_best_L10 M j0 ((8 * j0 + kn M j0) + 1 - 8 * j0) (8 * j0) (8 * j0)
theorem hyX6_best : yX6_best.cls ≠ "java/lang/invoke/MethodHandle" ∧ yX6_best.cls ≠ "java/lang/invoke/VarHandle" ∧ (parseMethodDescriptor yX6_best.desc).map (fun d => d.parameters.length) = some 1 := by decide +kernel
set_option maxHeartbeats 4000000 in
set_option maxRecDepth 100000 in
theorem c_X6_best (l : Launch) (dC : Nat → ClassId) (dI : Nat → Nat → Nat) (cA : Nat → ClassId) (ad : Nat → Nat) (hI : Inj 12 ad) (M : Mem) (j0 : Nat) (hj0 : j0 < 8) (hw0 : WFm M)  : Met l yX6_best (.code yX6_best cX6_best 4 (some .int) :: AG) ({ frames := 0, cells := 0, slots := 0, locals := 0 } : Room) (va_Pc [.ref (ad (0)), .int (nI j0)] (PM dC dI cA ad M)) (va_Qi (fun r u => r = f_X6_best M j0 ∧ u = M ∧ (vp_in r 64)) (PM dC dI cA ad) (adS 12 ad)) 0 0 (adS 12 ad) := by
  refine cMet (by decide) (Nat.le_of_ble_eq_true rfl) ?_
  intro p e s m below meth c ls hx hb hr hml hlocks hown hts hK hP hS hl
  have hA : ∀ q, adS 12 ad q → adS 12 ad q := fun _ h => h
  have hl : lv_has ls 4 [(0, .ref (ad (0))), (1, .int (nI j0))] := hl
  obtain ⟨V, eV⟩ : ∃ z, z = f_X6_best M j0 := ⟨_, rfl⟩
  have hv := eV
  unfold f_X6_best at hv
  have hk0 := (WFk hw0 (j := j0) (by omega)).1
  refine lv_bipush (v := 8) hx hb dX6_best_0 (by decide) ?_
  refine lv_iload_n hx hb dX6_best_2 rfl (lv_at hl 1 rfl) ?_
  refine lv_imul hx hb dX6_best_3 ?_
  refine w_eqi (y := nI (8 * j0)) (pk_mul 8 j0) ?_
  refine lv_istore_n (lv' := [(2, .int (nI (8 * j0))), (0, .ref (ad (0))), (1, .int (nI j0))]) hx hb dX6_best_4 rfl hl (by decide) rfl (fun ls hl => ?_)
  refine lv_bipush (v := 8) hx hb dX6_best_5 (by decide) ?_
  refine lv_iload_n hx hb dX6_best_7 rfl (lv_at hl 2 rfl) ?_
  refine lv_imul hx hb dX6_best_8 ?_
  refine w_eqi (y := nI (8 * j0)) (pk_mul 8 j0) ?_
  refine lv_istore_n (lv' := [(3, .int (nI (8 * j0))), (2, .int (nI (8 * j0))), (0, .ref (ad (0))), (1, .int (nI j0))]) hx hb dX6_best_9 rfl hl (by decide) rfl (fun ls hl => ?_)
  have L10 : ∀ (r i : Nat) (b : Nat) (H : Heap) (locs : List Loc) (ls : Array Slot), i + r = (8 * j0 + kn M j0) + 1 → i ≤ (8 * j0 + kn M j0) → (b < 64) → V = f_X6_best_L10 M j0 r i b → va_P (dC, dI) vwCl (wld 12 layM cA ad M) H → va_S (adS 12 ad) s.heap H locs → lv_has ls 4 [(3, .int (nI i)), (2, .int (nI b)), (0, .ref (ad (0))), (1, .int (nI j0))] → W p l e ({ frames := 0, cells := 0, slots := 0, locals := 0 } : Room) s m ([.ref (ad (0)), .int (nI j0)] : List Value).toArray below meth c H locs 0 0 (MQ below (va_Qi (fun r u => r = f_X6_best M j0 ∧ u = M ∧ (vp_in r 64)) (PM dC dI cA ad) (adS 12 ad)) ([.ref (ad (0)), .int (nI j0)] : List Value).toArray s 0 0 (adS 12 ad)) (F0 m 10 ls []) := by
    intro r
    induction r with
    | zero =>
      intro i b H locs ls hir hib
      omega
    | succ r ih =>
      intro i b H locs ls hir hib hx0_10 hv hP hS hl
      rw [f_X6_best_L10] at hv
      refine lv_iload_n hx hb dX6_best_10 rfl (lv_at hl 0 rfl) ?_
      refine lv_bipush (v := 8) hx hb dX6_best_11 (by decide) ?_
      refine lv_iload_n hx hb dX6_best_13 rfl (lv_at hl 3 rfl) ?_
      refine lv_imul hx hb dX6_best_14 ?_
      refine w_eqi (y := nI (8 * j0)) (pk_mul 8 j0) ?_
      refine lv_aload_n hx hb dX6_best_15 rfl (lv_at hl 2 rfl) ?_
      refine fg_X6_29 hx hb hts hK hP hown dX6_best_16 ?_
      refine lv_iload_n hx hb dX6_best_19 rfl (lv_at hl 3 rfl) ?_
      refine w_ialdN hx hb hK hP (k := 6) (by decide) lyM6 (i := j0) (by omega) (by decide) dX6_best_20 ?_
      have q_1 := (WFk hw0 (j := j0) (by omega)).1
      refine w_eqi (y := nI (kn M (j0))) (WFk hw0 (j := j0) (by omega)).2 ?_
      refine lv_iadd hx hb dX6_best_21 ?_
      refine w_eqi (y := nI ((8 * j0) + (kn M (j0)))) (nI_add (8 * j0) (kn M (j0))) ?_
      refine jI_ge (tgt := 53) hx hb dX6_best_22 (by decide) (fun c_2 => ?_) (fun c_2 => ?_)
      · have hv := hv.trans (if_pos c_2)
        have hc_2 : i < (8 * j0) + (kn M (j0)) := nI_lt8 c_2 (by omega) (by omega)
        refine lv_aload_n hx hb dX6_best_25 rfl (lv_at hl 2 rfl) ?_
        refine fg_X6_36 hx hb hts hK hP hown dX6_best_26 ?_
        refine lv_iload_n hx hb dX6_best_29 rfl (lv_at hl 0 rfl) ?_
        refine w_laldN hx hb hK hP (k := 8) (by decide) lyM8 (i := i) (by omega) (by decide) dX6_best_30 ?_
        refine lv_aload_n hx hb dX6_best_31 rfl (lv_at hl 2 rfl) ?_
        refine fg_X6_36 hx hb hts hK hP hown dX6_best_32 ?_
        refine lv_iload_n hx hb dX6_best_35 rfl (lv_at hl 1 rfl) ?_
        refine w_laldN hx hb hK hP (k := 8) (by decide) lyM8 (i := b) (by omega) (by decide) dX6_best_36 ?_
        refine jL_gt (tgt := 45) hx hb dX6_best_37 dX6_best_38 (by decide) (fun c_3 => ?_) (fun c_3 => ?_)
        · have hv := hv.trans (if_pos c_3)
          refine lv_iload_n hx hb dX6_best_45 rfl (lv_at hl 1 rfl) ?_
          refine lv_istore_n (lv' := [(2, .int (nI b)), (3, .int (nI i)), (0, .ref (ad (0))), (1, .int (nI j0))]) hx hb dX6_best_46 rfl hl (by decide) rfl (fun ls hl => ?_)
          refine lv_iinc (v := nI (i + 1)) (lv' := [(3, .int (nI (i + 1))), (2, .int (nI b)), (0, .ref (ad (0))), (1, .int (nI j0))]) hx hb dX6_best_47 hl (k := 1) rfl (show nI (i) + 1 = nI (i + 1) from nI_1 _) (by decide) rfl (fun ls hl => ?_)
          refine lv_goto (tgt := 10) hx hb dX6_best_50 (by decide) ?_
          exact ih (i + 1) b _ _ _ (by omega) (by omega) (by omega) hv hP hS (lv_sub hl [0, 1, 2, 3] rfl)
        · have hv := hv.trans (if_neg c_3)
          refine lv_iload_n hx hb dX6_best_41 rfl (lv_at hl 0 rfl) ?_
          refine lv_goto (tgt := 46) hx hb dX6_best_42 (by decide) ?_
          refine lv_istore_n (lv' := [(2, .int (nI i)), (3, .int (nI i)), (0, .ref (ad (0))), (1, .int (nI j0))]) hx hb dX6_best_46 rfl hl (by decide) rfl (fun ls hl => ?_)
          refine lv_iinc (v := nI (i + 1)) (lv' := [(3, .int (nI (i + 1))), (2, .int (nI i)), (0, .ref (ad (0))), (1, .int (nI j0))]) hx hb dX6_best_47 hl (k := 1) rfl (show nI (i) + 1 = nI (i + 1) from nI_1 _) (by decide) rfl (fun ls hl => ?_)
          refine lv_goto (tgt := 10) hx hb dX6_best_50 (by decide) ?_
          exact ih (i + 1) i _ _ _ (by omega) (by omega) (by omega) hv hP hS (lv_sub hl [0, 1, 2, 3] rfl)
      · have hv := hv.trans (if_neg c_2)
        have hc_2 : ¬ i < (8 * j0) + (kn M (j0)) := fun h => c_2 (nI_lt h (by omega))
        refine lv_iload_n hx hb dX6_best_53 rfl (lv_at hl 1 rfl) ?_
        exact W.iret (v := nI b) hx hb hr (fun t ht hW => ⟨⟨_, M, rfl, ⟨hv.symm.trans eV, rfl, vp_in_nI (by omega) (by decide)⟩, by rw [ht]; exact hP, va_K.moved hW.alike hK⟩, hS.F ht⟩) hS.2.2 dX6_best_54
  exact L10 ((8 * j0 + kn M j0) + 1 - 8 * j0) (8 * j0) (8 * j0) _ _ _ (by omega) (by omega) (by omega) hv hP hS (lv_sub hl [0, 1, 2, 3] rfl)
def f_X6_jitterOf_L8 (M : Mem) (j0 : Nat) : Nat → Nat → Int64 → Int64
  | 0, _, _ => 0
  | r + 1, i, y2_8 => if nI i < nI ((8 * j0) + (kn M (j0))) then bnd (f_X6_best M  (j0)) fun r_3 => bnd ((f_X6_size (gJ M 0 (i) - gJ M 0 (r_3).toNatClampNeg))) fun x_4 => bnd ((y2_8 + x_4)) fun x_5 => f_X6_jitterOf_L8 M j0 r (i + 1) x_5 else if nI (kn M (j0)) = (1 : Int32) then (0 : Int64) else (y2_8 / ((nI (kn M (j0))).toInt64 - (1 : Int64)))
def f_X6_jitterOf (M : Mem) (j0 : Nat) : Int64 := f_X6_jitterOf_L8 M j0 ((8 * j0 + kn M j0) + 1 - 8 * j0) (8 * j0) (0 : Int64)
theorem hyX6_jitterOf : yX6_jitterOf.cls ≠ "java/lang/invoke/MethodHandle" ∧ yX6_jitterOf.cls ≠ "java/lang/invoke/VarHandle" ∧ (parseMethodDescriptor yX6_jitterOf.desc).map (fun d => d.parameters.length) = some 1 := by decide +kernel
set_option maxHeartbeats 4000000 in
set_option maxRecDepth 100000 in
theorem c_X6_jitterOf (l : Launch) (dC : Nat → ClassId) (dI : Nat → Nat → Nat) (cA : Nat → ClassId) (ad : Nat → Nat) (hI : Inj 12 ad) (M : Mem) (j0 : Nat) (hj0 : j0 < 8) (hw0 : WFm M)  : Met l yX6_jitterOf (.code yX6_jitterOf cX6_jitterOf 5 (some .long) :: AG) ({ frames := 1, cells := 0, slots := 0, locals := 23 } : Room) (va_Pc [.ref (ad (0)), .int (nI j0)] (PM dC dI cA ad M)) (va_Ql (fun r u => r = f_X6_jitterOf M j0 ∧ u = M) (PM dC dI cA ad) (adS 12 ad)) 0 0 (adS 12 ad) := by
  refine cMet (by decide) (Nat.le_of_ble_eq_true rfl) ?_
  intro p e s m below meth c ls hx hb hr hml hlocks hown hts hK hP hS hl
  have hA : ∀ q, adS 12 ad q → adS 12 ad q := fun _ h => h
  have hl : lv_has ls 5 [(0, .ref (ad (0))), (1, .int (nI j0))] := hl
  obtain ⟨V, eV⟩ : ∃ z, z = f_X6_jitterOf M j0 := ⟨_, rfl⟩
  have hv := eV
  unfold f_X6_jitterOf at hv
  have hk0 := (WFk hw0 (j := j0) (by omega)).1
  refine lv_lconst (v := 0) hx hb dX6_jitterOf_0 (by decide) ?_
  refine lv_lstore_n (lv' := [(2, .long (0 : Int64)), (0, .ref (ad (0))), (1, .int (nI j0))]) hx hb dX6_jitterOf_1 rfl hl (by decide) rfl (fun ls hl => ?_)
  refine lv_bipush (v := 8) hx hb dX6_jitterOf_2 (by decide) ?_
  refine lv_iload_n hx hb dX6_jitterOf_4 rfl (lv_at hl 2 rfl) ?_
  refine lv_imul hx hb dX6_jitterOf_5 ?_
  refine w_eqi (y := nI (8 * j0)) (pk_mul 8 j0) ?_
  refine lv_istore (lv' := [(4, .int (nI (8 * j0))), (2, .long (0 : Int64)), (0, .ref (ad (0))), (1, .int (nI j0))]) hx hb dX6_jitterOf_6 hl (by decide) rfl (fun ls hl => ?_)
  have L8 : ∀ (r i : Nat) (y2_8 : Int64) (H : Heap) (locs : List Loc) (ls : Array Slot), i + r = (8 * j0 + kn M j0) + 1 → i ≤ (8 * j0 + kn M j0) → V = f_X6_jitterOf_L8 M j0 r i y2_8 → va_P (dC, dI) vwCl (wld 12 layM cA ad M) H → va_S (adS 12 ad) s.heap H locs → lv_has ls 5 [(4, .int (nI i)), (2, .long y2_8), (0, .ref (ad (0))), (1, .int (nI j0))] → W p l e ({ frames := 1, cells := 0, slots := 0, locals := 23 } : Room) s m ([.ref (ad (0)), .int (nI j0)] : List Value).toArray below meth c H locs 0 0 (MQ below (va_Ql (fun r u => r = f_X6_jitterOf M j0 ∧ u = M) (PM dC dI cA ad) (adS 12 ad)) ([.ref (ad (0)), .int (nI j0)] : List Value).toArray s 0 0 (adS 12 ad)) (F0 m 8 ls []) := by
    intro r
    induction r with
    | zero =>
      intro i y2_8 H locs ls hir hib
      omega
    | succ r ih =>
      intro i y2_8 H locs ls hir hib hv hP hS hl
      rw [f_X6_jitterOf_L8] at hv
      refine lv_iload hx hb dX6_jitterOf_8 (lv_at hl 0 rfl) ?_
      refine lv_bipush (v := 8) hx hb dX6_jitterOf_10 (by decide) ?_
      refine lv_iload_n hx hb dX6_jitterOf_12 rfl (lv_at hl 3 rfl) ?_
      refine lv_imul hx hb dX6_jitterOf_13 ?_
      refine w_eqi (y := nI (8 * j0)) (pk_mul 8 j0) ?_
      refine lv_aload_n hx hb dX6_jitterOf_14 rfl (lv_at hl 2 rfl) ?_
      refine fg_X6_29 hx hb hts hK hP hown dX6_jitterOf_15 ?_
      refine lv_iload_n hx hb dX6_jitterOf_18 rfl (lv_at hl 3 rfl) ?_
      refine w_ialdN hx hb hK hP (k := 6) (by decide) lyM6 (i := j0) (by omega) (by decide) dX6_jitterOf_19 ?_
      have q_1 := (WFk hw0 (j := j0) (by omega)).1
      refine w_eqi (y := nI (kn M (j0))) (WFk hw0 (j := j0) (by omega)).2 ?_
      refine lv_iadd hx hb dX6_jitterOf_20 ?_
      refine w_eqi (y := nI ((8 * j0) + (kn M (j0)))) (nI_add (8 * j0) (kn M (j0))) ?_
      refine jI_ge (tgt := 54) hx hb dX6_jitterOf_21 (by decide) (fun c_2 => ?_) (fun c_2 => ?_)
      · have hv := hv.trans (if_pos c_2)
        have hc_2 : i < (8 * j0) + (kn M (j0)) := nI_lt8 c_2 (by omega) (by omega)
        refine lv_lload_n hx hb dX6_jitterOf_24 rfl (lv_at hl 1 rfl) ?_
        refine lv_aload_n hx hb dX6_jitterOf_25 rfl (lv_at hl 2 rfl) ?_
        refine fg_X6_32 hx hb hts hK hP hown dX6_jitterOf_26 ?_
        refine lv_iload hx hb dX6_jitterOf_29 (lv_at hl 0 rfl) ?_
        refine w_laldN hx hb hK hP (k := 7) (by decide) lyM7 (i := i) (by omega) (by decide) dX6_jitterOf_31 ?_
        refine lv_aload_n hx hb dX6_jitterOf_32 rfl (lv_at hl 2 rfl) ?_
        refine fg_X6_32 hx hb hts hK hP hown dX6_jitterOf_33 ?_
        refine lv_aload_n hx hb dX6_jitterOf_36 rfl (lv_at hl 2 rfl) ?_
        refine lv_iload_n hx hb dX6_jitterOf_37 rfl (lv_at hl 3 rfl) ?_
        refine kVi hx hb hml hown hts hK hP hS hA (As := [.int (nI j0)]) (rest := [.ref (ad (7)), .long (gJ M 0 (i)), .long y2_8]) (c_X6_best l dC dI cA ad hI M  (j0) (by omega) hw0 ) (mkV hts q_1025 q_53 q_1022 q_1024 q_32 hyX6_best rfl rfl ⟨(Nat.le_of_ble_eq_true rfl), (Nat.le_of_ble_eq_true rfl)⟩) (w_recv hK hP (k := 0) (by decide) lyM0 (q := (RX6, TX6, 26)) rfl) rfl hl.1 rfl (Nat.le_of_ble_eq_true rfl) dX6_jitterOf_38 ⟨(Nat.le_of_ble_eq_true rfl), (Nat.le_of_ble_eq_true rfl)⟩ (fun r u H locs hw hP hS _ _ => ?_)
        obtain ⟨hw, hu, hxp⟩ := hw
        rw [hu] at hP
        have hv := bnd_name hv hw
        obtain ⟨r_3, er_3⟩ : ∃ z, z = r := ⟨_, rfl⟩
        rw [← er_3] at hv hw hxp
        refine w_eqi er_3.symm ?_
        have gr_3 := hw
        have pr_3 := hxp
        have hin := pr_3
        refine w_lald hx hb hK hP (k := 7) (by decide) lyM7 hin dX6_jitterOf_41 ?_
        refine lv_lsub hx hb dX6_jitterOf_42 ?_
        refine kSl hx hb hml hown hts (As := [.long (gJ M 0 (i) - gJ M 0 (r_3).toNatClampNeg)]) (rest := [.long y2_8]) (c_X6_size l (gJ M 0 (i) - gJ M 0 (r_3).toNatClampNeg) ) (mkS hts q_1040 q_53 q_1038 q_1039 hyX6_size rfl rfl ⟨(Nat.le_of_ble_eq_true rfl), (Nat.le_of_ble_eq_true rfl)⟩) rfl hl.1 rfl (Nat.le_of_ble_eq_true rfl) dX6_jitterOf_43 ⟨(Nat.le_of_ble_eq_true rfl), (Nat.le_of_ble_eq_true rfl)⟩ ?_
        refine lv_topl (fun x_4 ex_4 => ?_)
        have hv := bnd_name hv ex_4
        refine lv_ladd hx hb dX6_jitterOf_46 ?_
        refine lv_topl (fun x_5 ex_5 => ?_)
        have hv := bnd_name hv ex_5
        refine lv_lstore_n (lv' := [(2, .long x_5), (4, .int (nI i)), (0, .ref (ad (0))), (1, .int (nI j0))]) hx hb dX6_jitterOf_47 rfl hl (by decide) rfl (fun ls hl => ?_)
        refine lv_iinc (v := nI (i + 1)) (lv' := [(4, .int (nI (i + 1))), (2, .long x_5), (0, .ref (ad (0))), (1, .int (nI j0))]) hx hb dX6_jitterOf_48 hl (k := 1) rfl (show nI (i) + 1 = nI (i + 1) from nI_1 _) (by decide) rfl (fun ls hl => ?_)
        refine lv_goto (tgt := 8) hx hb dX6_jitterOf_51 (by decide) ?_
        exact ih (i + 1) x_5 _ _ _ (by omega) (by omega)  hv hP hS (lv_sub hl [0, 1, 2, 3] rfl)
      · have hv := hv.trans (if_neg c_2)
        have hc_2 : ¬ i < (8 * j0) + (kn M (j0)) := fun h => c_2 (nI_lt h (by omega))
        refine lv_aload_n hx hb dX6_jitterOf_54 rfl (lv_at hl 2 rfl) ?_
        refine fg_X6_29 hx hb hts hK hP hown dX6_jitterOf_55 ?_
        refine lv_iload_n hx hb dX6_jitterOf_58 rfl (lv_at hl 3 rfl) ?_
        refine w_ialdN hx hb hK hP (k := 6) (by decide) lyM6 (i := j0) (by omega) (by decide) dX6_jitterOf_59 ?_
        have q_6 := (WFk hw0 (j := j0) (by omega)).1
        refine w_eqi (y := nI (kn M (j0))) (WFk hw0 (j := j0) (by omega)).2 ?_
        refine lv_iconst (v := 1) hx hb dX6_jitterOf_60 (by decide) ?_
        refine jI_ne (tgt := 68) hx hb dX6_jitterOf_61 (by decide) (fun c_7 => ?_) (fun c_7 => ?_)
        · have hv := hv.trans (if_pos c_7)
          have hc_7 : kn M (j0) = 1 := (nI_eq (b := 1) (by omega) (by decide)).mp c_7
          refine lv_lconst (v := 0) hx hb dX6_jitterOf_64 (by decide) ?_
          refine lv_goto (tgt := 79) hx hb dX6_jitterOf_65 (by decide) ?_
          exact W.lret (v := (0 : Int64)) hx hb hr (fun t ht hW => ⟨⟨_, M, rfl, ⟨hv.symm.trans eV, rfl⟩, by rw [ht]; exact hP, va_K.moved hW.alike hK⟩, hS.F ht⟩) hS.2.2 dX6_jitterOf_79
        · have hv := hv.trans (if_neg c_7)
          have hc_7 : ¬ kn M (j0) = 1 := fun h => c_7 (by rw [h]; rfl)
          refine lv_lload_n hx hb dX6_jitterOf_68 rfl (lv_at hl 1 rfl) ?_
          refine lv_aload_n hx hb dX6_jitterOf_69 rfl (lv_at hl 2 rfl) ?_
          refine fg_X6_29 hx hb hts hK hP hown dX6_jitterOf_70 ?_
          refine lv_iload_n hx hb dX6_jitterOf_73 rfl (lv_at hl 3 rfl) ?_
          refine w_ialdN hx hb hK hP (k := 6) (by decide) lyM6 (i := j0) (by omega) (by decide) dX6_jitterOf_74 ?_
          have q_8 := (WFk hw0 (j := j0) (by omega)).1
          refine w_eqi (y := nI (kn M (j0))) (WFk hw0 (j := j0) (by omega)).2 ?_
          refine lv_i2l (v := (nI (kn M (j0))).toInt64) hx hb dX6_jitterOf_75 rfl ?_
          refine lv_lconst (v := 1) hx hb dX6_jitterOf_76 (by decide) ?_
          refine lv_lsub hx hb dX6_jitterOf_77 ?_
          refine lv_ldiv hx hb dX6_jitterOf_78 (km_ne hc_7 (by omega)) ?_
          exact W.lret (v := (y2_8 / ((nI (kn M (j0))).toInt64 - (1 : Int64)))) hx hb hr (fun t ht hW => ⟨⟨_, M, rfl, ⟨hv.symm.trans eV, rfl⟩, by rw [ht]; exact hP, va_K.moved hW.alike hK⟩, hS.F ht⟩) hS.2.2 dX6_jitterOf_79
  exact L8 ((8 * j0 + kn M j0) + 1 - 8 * j0) (8 * j0) (0 : Int64) _ _ _ (by omega) (by omega)  hv hP hS (lv_sub hl [0, 1, 2, 3] rfl)
def f_X6_distanceOf (M : Mem) (j0 : Nat) : Int64 := bnd (f_X6_best M  (j0)) fun r_1 => bnd (f_X6_jitterOf M  (j0)) fun r_2 => bnd (f_X6_reading M  ) fun r_3 => bnd ((f_X6_down ((15 : Int64) * (r_3 - gJ M 2 (r_1).toNatClampNeg)) (1000000 : Int64))) fun x_4 => ((((((gB M 3 (j0) / (2 : Int32))).toInt64 + (gJ M 1 (r_1).toNatClampNeg / (2 : Int64))) + (gB M 4 (j0)).toInt64) + r_2) + x_4)
theorem hyX6_distanceOf : yX6_distanceOf.cls ≠ "java/lang/invoke/MethodHandle" ∧ yX6_distanceOf.cls ≠ "java/lang/invoke/VarHandle" ∧ (parseMethodDescriptor yX6_distanceOf.desc).map (fun d => d.parameters.length) = some 1 := by decide +kernel
set_option maxHeartbeats 4000000 in
set_option maxRecDepth 100000 in
theorem c_X6_distanceOf (l : Launch) (dC : Nat → ClassId) (dI : Nat → Nat → Nat) (cA : Nat → ClassId) (ad : Nat → Nat) (hI : Inj 12 ad) (M : Mem) (j0 : Nat) (hj0 : j0 < 8) (hw0 : WFm M)  : Met l yX6_distanceOf (.code yX6_distanceOf cX6_distanceOf 3 (some .long) :: AG) ({ frames := 2, cells := 0, slots := 0, locals := 47 } : Room) (va_Pc [.ref (ad (0)), .int (nI j0)] (PM dC dI cA ad M)) (va_Ql (fun r u => r = f_X6_distanceOf M j0 ∧ u = M) (PM dC dI cA ad) (adS 12 ad)) 0 0 (adS 12 ad) := by
  refine cMet (by decide) (Nat.le_of_ble_eq_true rfl) ?_
  intro p e s m below meth c ls hx hb hr hml hlocks hown hts hK hP hS hl
  have hA : ∀ q, adS 12 ad q → adS 12 ad q := fun _ h => h
  have hl : lv_has ls 3 [(0, .ref (ad (0))), (1, .int (nI j0))] := hl
  obtain ⟨V, eV⟩ : ∃ z, z = f_X6_distanceOf M j0 := ⟨_, rfl⟩
  have hv := eV
  unfold f_X6_distanceOf at hv
  refine lv_aload_n hx hb dX6_distanceOf_0 rfl (lv_at hl 0 rfl) ?_
  refine lv_iload_n hx hb dX6_distanceOf_1 rfl (lv_at hl 1 rfl) ?_
  refine kVi hx hb hml hown hts hK hP hS hA (As := [.int (nI j0)]) (rest := []) (c_X6_best l dC dI cA ad hI M  (j0) (by omega) hw0 ) (mkV hts q_1025 q_53 q_1022 q_1024 q_32 hyX6_best rfl rfl ⟨(Nat.le_of_ble_eq_true rfl), (Nat.le_of_ble_eq_true rfl)⟩) (w_recv hK hP (k := 0) (by decide) lyM0 (q := (RX6, TX6, 26)) rfl) rfl hl.1 rfl (Nat.le_of_ble_eq_true rfl) dX6_distanceOf_2 ⟨(Nat.le_of_ble_eq_true rfl), (Nat.le_of_ble_eq_true rfl)⟩ (fun r u H locs hw hP hS _ _ => ?_)
  obtain ⟨hw, hu, hxp⟩ := hw
  rw [hu] at hP
  have hv := bnd_name hv hw
  obtain ⟨r_1, er_1⟩ : ∃ z, z = r := ⟨_, rfl⟩
  rw [← er_1] at hv hw hxp
  refine w_eqi er_1.symm ?_
  have gr_1 := hw
  have pr_1 := hxp
  refine lv_istore_n (lv' := [(2, .int r_1), (0, .ref (ad (0))), (1, .int (nI j0))]) hx hb dX6_distanceOf_5 rfl hl (by decide) rfl (fun ls hl => ?_)
  refine lv_aload_n hx hb dX6_distanceOf_6 rfl (lv_at hl 1 rfl) ?_
  refine fg_X6_23 hx hb hts hK hP hown dX6_distanceOf_7 ?_
  refine lv_iload_n hx hb dX6_distanceOf_10 rfl (lv_at hl 2 rfl) ?_
  refine w_ialdN hx hb hK hP (k := 4) (by decide) lyM4 (i := j0) (by omega) (by decide) dX6_distanceOf_11 ?_
  refine lv_iconst (v := 2) hx hb dX6_distanceOf_12 (by decide) ?_
  refine lv_idiv hx hb dX6_distanceOf_13 (by decide) ?_
  refine lv_i2l (v := ((gB M 3 (j0) / (2 : Int32))).toInt64) hx hb dX6_distanceOf_14 rfl ?_
  refine lv_aload_n hx hb dX6_distanceOf_15 rfl (lv_at hl 1 rfl) ?_
  refine fg_X6_36 hx hb hts hK hP hown dX6_distanceOf_16 ?_
  refine lv_iload_n hx hb dX6_distanceOf_19 rfl (lv_at hl 0 rfl) ?_
  have hin := pr_1
  refine w_lald hx hb hK hP (k := 8) (by decide) lyM8 hin dX6_distanceOf_20 ?_
  refine lv_ldc2 (v := 2) hx hb hown (hts _ q_1001) dX6_distanceOf_21 ?_
  refine lv_ldiv hx hb dX6_distanceOf_24 (by decide) ?_
  refine lv_ladd hx hb dX6_distanceOf_25 ?_
  refine lv_aload_n hx hb dX6_distanceOf_26 rfl (lv_at hl 1 rfl) ?_
  refine fg_X6_26 hx hb hts hK hP hown dX6_distanceOf_27 ?_
  refine lv_iload_n hx hb dX6_distanceOf_30 rfl (lv_at hl 2 rfl) ?_
  refine w_ialdN hx hb hK hP (k := 5) (by decide) lyM5 (i := j0) (by omega) (by decide) dX6_distanceOf_31 ?_
  refine lv_i2l (v := (gB M 4 (j0)).toInt64) hx hb dX6_distanceOf_32 rfl ?_
  refine lv_ladd hx hb dX6_distanceOf_33 ?_
  refine lv_aload_n hx hb dX6_distanceOf_34 rfl (lv_at hl 1 rfl) ?_
  refine lv_iload_n hx hb dX6_distanceOf_35 rfl (lv_at hl 2 rfl) ?_
  refine kVl hx hb hml hown hts hK hP hS hA (As := [.int (nI j0)]) (rest := [.long ((((gB M 3 (j0) / (2 : Int32))).toInt64 + (gJ M 1 (r_1).toNatClampNeg / (2 : Int64))) + (gB M 4 (j0)).toInt64)]) (c_X6_jitterOf l dC dI cA ad hI M  (j0) (by omega) hw0 ) (mkV hts q_1037 q_53 q_1034 q_1036 q_33 hyX6_jitterOf rfl rfl ⟨(Nat.le_of_ble_eq_true rfl), (Nat.le_of_ble_eq_true rfl)⟩) (w_recv hK hP (k := 0) (by decide) lyM0 (q := (RX6, TX6, 26)) rfl) rfl hl.1 rfl (Nat.le_of_ble_eq_true rfl) dX6_distanceOf_36 ⟨(Nat.le_of_ble_eq_true rfl), (Nat.le_of_ble_eq_true rfl)⟩ (fun r u H locs hw hP hS _ _ => ?_)
  obtain ⟨hw, hu⟩ := hw
  rw [hu] at hP
  have hv := bnd_name hv hw
  obtain ⟨r_2, er_2⟩ : ∃ z, z = r := ⟨_, rfl⟩
  rw [← er_2] at hv hw
  refine w_eql er_2.symm ?_
  have gr_2 := hw
  refine lv_ladd hx hb dX6_distanceOf_39 ?_
  refine lv_ldc2 (v := 15) hx hb hown (hts _ q_1049) dX6_distanceOf_40 ?_
  refine lv_aload_n hx hb dX6_distanceOf_43 rfl (lv_at hl 1 rfl) ?_
  refine kVl hx hb hml hown hts hK hP hS hA (As := []) (rest := [.long (15 : Int64), .long (((((gB M 3 (j0) / (2 : Int32))).toInt64 + (gJ M 1 (r_1).toNatClampNeg / (2 : Int64))) + (gB M 4 (j0)).toInt64) + r_2)]) (c_X6_reading l dC dI cA ad hI M   hw0 ) (mkV hts q_928 q_53 q_925 q_927 q_26 hyX6_reading rfl rfl ⟨(Nat.le_of_ble_eq_true rfl), (Nat.le_of_ble_eq_true rfl)⟩) (w_recv hK hP (k := 0) (by decide) lyM0 (q := (RX6, TX6, 26)) rfl) rfl hl.1 rfl (Nat.le_of_ble_eq_true rfl) dX6_distanceOf_44 ⟨(Nat.le_of_ble_eq_true rfl), (Nat.le_of_ble_eq_true rfl)⟩ (fun r u H locs hw hP hS _ _ => ?_)
  obtain ⟨hw, hu⟩ := hw
  rw [hu] at hP
  have hv := bnd_name hv hw
  obtain ⟨r_3, er_3⟩ : ∃ z, z = r := ⟨_, rfl⟩
  rw [← er_3] at hv hw
  refine w_eql er_3.symm ?_
  have gr_3 := hw
  refine lv_aload_n hx hb dX6_distanceOf_47 rfl (lv_at hl 1 rfl) ?_
  refine fg_X6_39 hx hb hts hK hP hown dX6_distanceOf_48 ?_
  refine lv_iload_n hx hb dX6_distanceOf_51 rfl (lv_at hl 0 rfl) ?_
  have hin := pr_1
  refine w_lald hx hb hK hP (k := 9) (by decide) lyM9 hin dX6_distanceOf_52 ?_
  refine lv_lsub hx hb dX6_distanceOf_53 ?_
  refine lv_lmul hx hb dX6_distanceOf_54 ?_
  refine lv_ldc2 (v := 1000000) hx hb hown (hts _ q_914) dX6_distanceOf_55 ?_
  refine kSl hx hb hml hown hts (As := [.long ((15 : Int64) * (r_3 - gJ M 2 (r_1).toNatClampNeg)), .long (1000000 : Int64)]) (rest := [.long (((((gB M 3 (j0) / (2 : Int32))).toInt64 + (gJ M 1 (r_1).toNatClampNeg / (2 : Int64))) + (gB M 4 (j0)).toInt64) + r_2)]) (c_X6_down l ((15 : Int64) * (r_3 - gJ M 2 (r_1).toNatClampNeg)) (1000000 : Int64) (by decide)) (mkS hts q_931 q_53 q_929 q_930 hyX6_down rfl rfl ⟨(Nat.le_of_ble_eq_true rfl), (Nat.le_of_ble_eq_true rfl)⟩) rfl hl.1 rfl (Nat.le_of_ble_eq_true rfl) dX6_distanceOf_58 ⟨(Nat.le_of_ble_eq_true rfl), (Nat.le_of_ble_eq_true rfl)⟩ ?_
  refine lv_topl (fun x_4 ex_4 => ?_)
  have hv := bnd_name hv ex_4
  refine lv_ladd hx hb dX6_distanceOf_61 ?_
  exact W.lret (v := ((((((gB M 3 (j0) / (2 : Int32))).toInt64 + (gJ M 1 (r_1).toNatClampNeg / (2 : Int64))) + (gB M 4 (j0)).toInt64) + r_2) + x_4)) hx hb hr (fun t ht hW => ⟨⟨_, M, rfl, ⟨hv.symm.trans eV, rfl⟩, by rw [ht]; exact hP, va_K.moved hW.alike hK⟩, hS.F ht⟩) hS.2.2 dX6_distanceOf_62
def f_X6_noSample (M : Mem) (p0 : Int32) : Int32 × Mem := bnd (f_X6_isServer M  p0) fun r_1 => if r_1 = (0 : Int32) then bnd2 (f_X6_refused M  (1 : Int32)) fun r_4 M_3 => ((1 : Int32), M_3) else bnd ((p0).toNatClampNeg) fun j0 => if nI (kn M (j0)) = (0 : Int32) then bnd2 (f_X6_refused M  (2 : Int32)) fun r_9 M_8 => ((1 : Int32), M_8) else bnd2 (f_X6_refused M  (0 : Int32)) fun r_12 M_11 => ((0 : Int32), M_11)
theorem hyX6_noSample : yX6_noSample.cls ≠ "java/lang/invoke/MethodHandle" ∧ yX6_noSample.cls ≠ "java/lang/invoke/VarHandle" ∧ (parseMethodDescriptor yX6_noSample.desc).map (fun d => d.parameters.length) = some 1 := by decide +kernel
set_option maxHeartbeats 4000000 in
set_option maxRecDepth 100000 in
theorem c_X6_noSample (l : Launch) (dC : Nat → ClassId) (dI : Nat → Nat → Nat) (cA : Nat → ClassId) (ad : Nat → Nat) (hI : Inj 12 ad) (M : Mem) (p0 : Int32) (hw0 : WFm M)  : Met l yX6_noSample (.code yX6_noSample cX6_noSample 2 (some .boolean) :: AG) ({ frames := 2, cells := 0, slots := 0, locals := 46 } : Room) (va_Pc [.ref (ad (0)), .int p0] (PM dC dI cA ad M)) (va_Qi (fun r u => (r, u) = f_X6_noSample M p0 ∧ WFm u) (PM dC dI cA ad) (adS 12 ad)) 0 0 (adS 12 ad) := by
  refine cMet (by decide) (Nat.le_of_ble_eq_true rfl) ?_
  intro p e s m below meth c ls hx hb hr hml hlocks hown hts hK hP hS hl
  have hA : ∀ q, adS 12 ad q → adS 12 ad q := fun _ h => h
  have hl : lv_has ls 2 [(0, .ref (ad (0))), (1, .int p0)] := hl
  obtain ⟨V, eV⟩ : ∃ z, z = f_X6_noSample M p0 := ⟨_, rfl⟩
  have hv := eV
  unfold f_X6_noSample at hv
  refine lv_aload_n hx hb dX6_noSample_0 rfl (lv_at hl 0 rfl) ?_
  refine lv_aload_n hx hb dX6_noSample_1 rfl (lv_at hl 0 rfl) ?_
  refine lv_iload_n hx hb dX6_noSample_2 rfl (lv_at hl 1 rfl) ?_
  refine kVi hx hb hml hown hts hK hP hS hA (As := [.int p0]) (rest := [.ref (ad (0))]) (c_X6_isServer l dC dI cA ad hI M  p0 hw0 ) (mkV hts q_994 q_53 q_991 q_993 q_29 hyX6_isServer rfl rfl ⟨(Nat.le_of_ble_eq_true rfl), (Nat.le_of_ble_eq_true rfl)⟩) (w_recv hK hP (k := 0) (by decide) lyM0 (q := (RX6, TX6, 26)) rfl) rfl hl.1 rfl (Nat.le_of_ble_eq_true rfl) dX6_noSample_3 ⟨(Nat.le_of_ble_eq_true rfl), (Nat.le_of_ble_eq_true rfl)⟩ (fun r u H locs hw hP hS _ _ => ?_)
  obtain ⟨hw, hu⟩ := hw
  rw [hu] at hP
  have hv := bnd_name hv hw
  obtain ⟨r_1, er_1⟩ : ∃ z, z = r := ⟨_, rfl⟩
  rw [← er_1] at hv hw
  refine w_eqi er_1.symm ?_
  have gr_1 := hw
  have br_1 : r_1 = 0 ∨ r_1 = 1 := by rw [hw]; exact f_X6_isServer_b M  p0
  refine j0_ne (tgt := 13) hx hb dX6_noSample_6 (by decide) (fun c_2 => ?_) (fun c_2 => ?_)
  · have hv := hv.trans (if_pos c_2)
    refine lv_iconst (v := 1) hx hb dX6_noSample_9 (by decide) ?_
    refine lv_goto (tgt := 27) hx hb dX6_noSample_10 (by decide) ?_
    refine kVi hx hb hml hown hts hK hP hS hA (As := [.int (1 : Int32)]) (rest := []) (c_X6_refused l dC dI cA ad hI M  (1 : Int32) hw0 ) (mkV hts q_913 q_53 q_910 q_912 q_24 hyX6_refused rfl rfl ⟨(Nat.le_of_ble_eq_true rfl), (Nat.le_of_ble_eq_true rfl)⟩) (w_recv hK hP (k := 0) (by decide) lyM0 (q := (RX6, TX6, 26)) rfl) rfl hl.1 rfl (Nat.le_of_ble_eq_true rfl) dX6_noSample_27 ⟨(Nat.le_of_ble_eq_true rfl), (Nat.le_of_ble_eq_true rfl)⟩ (fun r u H locs hw hP hS _ _ => ?_)
    obtain ⟨M_3, eM_3⟩ : ∃ z, z = u := ⟨_, rfl⟩
    rw [← eM_3] at hP hw
    obtain ⟨r_4, er_4⟩ : ∃ z, z = r := ⟨_, rfl⟩
    rw [← er_4] at hw
    refine w_eqi er_4.symm ?_
    obtain ⟨hw, wM_3⟩ := hw
    have gM_3 := hw
    have hv := bnd2_name hv hw
    have lr_4 : r_4 = 1 := congrArg Prod.fst hw
    refine w_eqi lr_4 ?_
    exact W.zret (v := (1 : Int32)) hx hb hr rfl (fun t ht hW => ⟨⟨_, M_3, rfl, ⟨hv.symm.trans eV, wM_3⟩, by rw [ht]; exact hP, va_K.moved hW.alike hK⟩, hS.F ht⟩) hS.2.2 dX6_noSample_30
  · have hv := hv.trans (if_neg c_2)
    obtain ⟨j0, hj0, e9⟩ := (srv_of hw0 (by rw [← gr_1]; exact c_2) : ∃ j, _ ∧ p0 = nI j)
    subst e9
    have hv := bnd_name hv (show j0 = (nI j0).toNatClampNeg from (nI_clamp (by omega)).symm)
    refine lv_aload_n hx hb dX6_noSample_13 rfl (lv_at hl 0 rfl) ?_
    refine fg_X6_29 hx hb hts hK hP hown dX6_noSample_14 ?_
    refine lv_iload_n hx hb dX6_noSample_17 rfl (lv_at hl 1 rfl) ?_
    refine w_ialdN hx hb hK hP (k := 6) (by decide) lyM6 (i := j0) (by omega) (by decide) dX6_noSample_18 ?_
    have q_6 := (WFk hw0 (j := j0) (by omega)).1
    refine w_eqi (y := nI (kn M (j0))) (WFk hw0 (j := j0) (by omega)).2 ?_
    refine j0_ne (tgt := 26) hx hb dX6_noSample_19 (by decide) (fun c_7 => ?_) (fun c_7 => ?_)
    · have hv := hv.trans (if_pos c_7)
      have hc_7 : kn M (j0) = 0 := (nI_eq (b := 0) (by omega) (by decide)).mp c_7
      refine lv_iconst (v := 2) hx hb dX6_noSample_22 (by decide) ?_
      refine lv_goto (tgt := 27) hx hb dX6_noSample_23 (by decide) ?_
      refine kVi hx hb hml hown hts hK hP hS hA (As := [.int (2 : Int32)]) (rest := []) (c_X6_refused l dC dI cA ad hI M  (2 : Int32) hw0 ) (mkV hts q_913 q_53 q_910 q_912 q_24 hyX6_refused rfl rfl ⟨(Nat.le_of_ble_eq_true rfl), (Nat.le_of_ble_eq_true rfl)⟩) (w_recv hK hP (k := 0) (by decide) lyM0 (q := (RX6, TX6, 26)) rfl) rfl hl.1 rfl (Nat.le_of_ble_eq_true rfl) dX6_noSample_27 ⟨(Nat.le_of_ble_eq_true rfl), (Nat.le_of_ble_eq_true rfl)⟩ (fun r u H locs hw hP hS _ _ => ?_)
      obtain ⟨M_8, eM_8⟩ : ∃ z, z = u := ⟨_, rfl⟩
      rw [← eM_8] at hP hw
      obtain ⟨r_9, er_9⟩ : ∃ z, z = r := ⟨_, rfl⟩
      rw [← er_9] at hw
      refine w_eqi er_9.symm ?_
      obtain ⟨hw, wM_8⟩ := hw
      have gM_8 := hw
      have hv := bnd2_name hv hw
      have lr_9 : r_9 = 1 := congrArg Prod.fst hw
      refine w_eqi lr_9 ?_
      exact W.zret (v := (1 : Int32)) hx hb hr rfl (fun t ht hW => ⟨⟨_, M_8, rfl, ⟨hv.symm.trans eV, wM_8⟩, by rw [ht]; exact hP, va_K.moved hW.alike hK⟩, hS.F ht⟩) hS.2.2 dX6_noSample_30
    · have hv := hv.trans (if_neg c_7)
      have hc_7 : ¬ kn M (j0) = 0 := fun h => c_7 (by rw [h]; rfl)
      refine lv_iconst (v := 0) hx hb dX6_noSample_26 (by decide) ?_
      refine kVi hx hb hml hown hts hK hP hS hA (As := [.int (0 : Int32)]) (rest := []) (c_X6_refused l dC dI cA ad hI M  (0 : Int32) hw0 ) (mkV hts q_913 q_53 q_910 q_912 q_24 hyX6_refused rfl rfl ⟨(Nat.le_of_ble_eq_true rfl), (Nat.le_of_ble_eq_true rfl)⟩) (w_recv hK hP (k := 0) (by decide) lyM0 (q := (RX6, TX6, 26)) rfl) rfl hl.1 rfl (Nat.le_of_ble_eq_true rfl) dX6_noSample_27 ⟨(Nat.le_of_ble_eq_true rfl), (Nat.le_of_ble_eq_true rfl)⟩ (fun r u H locs hw hP hS _ _ => ?_)
      obtain ⟨M_11, eM_11⟩ : ∃ z, z = u := ⟨_, rfl⟩
      rw [← eM_11] at hP hw
      obtain ⟨r_12, er_12⟩ : ∃ z, z = r := ⟨_, rfl⟩
      rw [← er_12] at hw
      refine w_eqi er_12.symm ?_
      obtain ⟨hw, wM_11⟩ := hw
      have gM_11 := hw
      have hv := bnd2_name hv hw
      have lr_12 : r_12 = 0 := congrArg Prod.fst hw
      refine w_eqi lr_12 ?_
      exact W.zret (v := (0 : Int32)) hx hb hr rfl (fun t ht hW => ⟨⟨_, M_11, rfl, ⟨hv.symm.trans eV, wM_11⟩, by rw [ht]; exact hP, va_K.moved hW.alike hK⟩, hS.F ht⟩) hS.2.2 dX6_noSample_30
theorem ns_of {M u : Mem} {x r : Int32} (w : WFm M) (h : (r, u) = f_X6_noSample M x) (h0 : r = 0) : ∃ j, (j < 8 ∧ j < sn M) ∧ x = nI j := by
  have h1 : (f_X6_noSample M x).1 = 0 := by rw [← h]; exact h0
  unfold f_X6_noSample at h1
  by_cases c : f_X6_isServer M x = 0
  · simp only [bnd, c] at h1
    exact absurd h1 (by simp [bnd2])
  · exact srv_of w c
theorem f_X6_noSample_b (M : Mem) (p0 : Int32) : (f_X6_noSample M p0).1 = 0 ∨ (f_X6_noSample M p0).1 = 1 := by
  unfold f_X6_noSample
  repeat' (first | with_reducible refine bnd_id1 (by apply f_X6_isServer_b) | with_reducible refine bnd_id1 (by apply f_X6_refused_b) | with_reducible refine bnd_or1 (fun _ => ?_) | with_reducible refine bnd2_or1 (fun _ _ => ?_) | with_reducible refine ite_or1 ?_ ?_ | exact Or.inl rfl | exact Or.inr rfl)
def f_X6_offset (M : Mem) (p0 : Int32) : Int64 × Mem := bnd2 (f_X6_noSample M  p0) fun r_2 M_1 => if r_2 = (0 : Int32) then bnd ((p0).toNatClampNeg) fun j0 => bnd (f_X6_best M_1  (j0)) fun r_5 => (gJ M_1 0 (r_5).toNatClampNeg, M_1) else ((0 : Int64), M_1)
theorem hyX6_offset : yX6_offset.cls ≠ "java/lang/invoke/MethodHandle" ∧ yX6_offset.cls ≠ "java/lang/invoke/VarHandle" ∧ (parseMethodDescriptor yX6_offset.desc).map (fun d => d.parameters.length) = some 1 := by decide +kernel
set_option maxHeartbeats 4000000 in
set_option maxRecDepth 100000 in
theorem c_X6_offset (l : Launch) (dC : Nat → ClassId) (dI : Nat → Nat → Nat) (cA : Nat → ClassId) (ad : Nat → Nat) (hI : Inj 12 ad) (M : Mem) (p0 : Int32) (hw0 : WFm M)  : Met l yX6_offset (.code yX6_offset cX6_offset 2 (some .long) :: AG) ({ frames := 3, cells := 0, slots := 0, locals := 67 } : Room) (va_Pc [.ref (ad (0)), .int p0] (PM dC dI cA ad M)) (va_Ql (fun r u => (r, u) = f_X6_offset M p0 ∧ WFm u) (PM dC dI cA ad) (adS 12 ad)) 0 0 (adS 12 ad) := by
  refine cMet (by decide) (Nat.le_of_ble_eq_true rfl) ?_
  intro p e s m below meth c ls hx hb hr hml hlocks hown hts hK hP hS hl
  have hA : ∀ q, adS 12 ad q → adS 12 ad q := fun _ h => h
  have hl : lv_has ls 2 [(0, .ref (ad (0))), (1, .int p0)] := hl
  obtain ⟨V, eV⟩ : ∃ z, z = f_X6_offset M p0 := ⟨_, rfl⟩
  have hv := eV
  unfold f_X6_offset at hv
  refine lv_aload_n hx hb dX6_offset_0 rfl (lv_at hl 0 rfl) ?_
  refine lv_iload_n hx hb dX6_offset_1 rfl (lv_at hl 1 rfl) ?_
  refine kVi hx hb hml hown hts hK hP hS hA (As := [.int p0]) (rest := []) (c_X6_noSample l dC dI cA ad hI M  p0 hw0 ) (mkV hts q_1021 q_53 q_1018 q_1020 q_31 hyX6_noSample rfl rfl ⟨(Nat.le_of_ble_eq_true rfl), (Nat.le_of_ble_eq_true rfl)⟩) (w_recv hK hP (k := 0) (by decide) lyM0 (q := (RX6, TX6, 26)) rfl) rfl hl.1 rfl (Nat.le_of_ble_eq_true rfl) dX6_offset_2 ⟨(Nat.le_of_ble_eq_true rfl), (Nat.le_of_ble_eq_true rfl)⟩ (fun r u H locs hw hP hS _ _ => ?_)
  obtain ⟨M_1, eM_1⟩ : ∃ z, z = u := ⟨_, rfl⟩
  rw [← eM_1] at hP hw
  obtain ⟨r_2, er_2⟩ : ∃ z, z = r := ⟨_, rfl⟩
  rw [← er_2] at hw
  refine w_eqi er_2.symm ?_
  obtain ⟨hw, wM_1⟩ := hw
  have gM_1 := hw
  have hv := bnd2_name hv hw
  have br_2 : r_2 = 0 ∨ r_2 = 1 := by have h9 := f_X6_noSample_b M  p0; rw [← hw] at h9; exact h9
  refine j0_eq (tgt := 12) hx hb dX6_offset_5 (by decide) (fun c_4 => ?_) (fun c_4 => ?_)
  · have hv := hv.trans (if_pos c_4)
    obtain ⟨j0, hj0, e9⟩ := (ns_of hw0 gM_1 c_4 : ∃ j, _ ∧ p0 = nI j)
    subst e9
    have hv := bnd_name hv (show j0 = (nI j0).toNatClampNeg from (nI_clamp (by omega)).symm)
    refine lv_aload_n hx hb dX6_offset_12 rfl (lv_at hl 0 rfl) ?_
    refine fg_X6_32 hx hb hts hK hP hown dX6_offset_13 ?_
    refine lv_aload_n hx hb dX6_offset_16 rfl (lv_at hl 0 rfl) ?_
    refine lv_iload_n hx hb dX6_offset_17 rfl (lv_at hl 1 rfl) ?_
    refine kVi hx hb hml hown hts hK hP hS hA (As := [.int (nI j0)]) (rest := [.ref (ad (7))]) (c_X6_best l dC dI cA ad hI M_1  (j0) (by omega) wM_1 ) (mkV hts q_1025 q_53 q_1022 q_1024 q_32 hyX6_best rfl rfl ⟨(Nat.le_of_ble_eq_true rfl), (Nat.le_of_ble_eq_true rfl)⟩) (w_recv hK hP (k := 0) (by decide) lyM0 (q := (RX6, TX6, 26)) rfl) rfl hl.1 rfl (Nat.le_of_ble_eq_true rfl) dX6_offset_18 ⟨(Nat.le_of_ble_eq_true rfl), (Nat.le_of_ble_eq_true rfl)⟩ (fun r u H locs hw hP hS _ _ => ?_)
    obtain ⟨hw, hu, hxp⟩ := hw
    rw [hu] at hP
    have hv := bnd_name hv hw
    obtain ⟨r_5, er_5⟩ : ∃ z, z = r := ⟨_, rfl⟩
    rw [← er_5] at hv hw hxp
    refine w_eqi er_5.symm ?_
    have gr_5 := hw
    have pr_5 := hxp
    have hin := pr_5
    refine w_lald hx hb hK hP (k := 7) (by decide) lyM7 hin dX6_offset_21 ?_
    exact W.lret (v := gJ M_1 0 (r_5).toNatClampNeg) hx hb hr (fun t ht hW => ⟨⟨_, M_1, rfl, ⟨hv.symm.trans eV, wM_1⟩, by rw [ht]; exact hP, va_K.moved hW.alike hK⟩, hS.F ht⟩) hS.2.2 dX6_offset_22
  · have hv := hv.trans (if_neg c_4)
    refine lv_lconst (v := 0) hx hb dX6_offset_8 (by decide) ?_
    refine lv_goto (tgt := 22) hx hb dX6_offset_9 (by decide) ?_
    exact W.lret (v := (0 : Int64)) hx hb hr (fun t ht hW => ⟨⟨_, M_1, rfl, ⟨hv.symm.trans eV, wM_1⟩, by rw [ht]; exact hP, va_K.moved hW.alike hK⟩, hS.F ht⟩) hS.2.2 dX6_offset_22
def f_X6_delay (M : Mem) (p0 : Int32) : Int64 × Mem := bnd2 (f_X6_noSample M  p0) fun r_2 M_1 => if r_2 = (0 : Int32) then bnd ((p0).toNatClampNeg) fun j0 => bnd (f_X6_best M_1  (j0)) fun r_5 => (gJ M_1 1 (r_5).toNatClampNeg, M_1) else ((0 : Int64), M_1)
theorem hyX6_delay : yX6_delay.cls ≠ "java/lang/invoke/MethodHandle" ∧ yX6_delay.cls ≠ "java/lang/invoke/VarHandle" ∧ (parseMethodDescriptor yX6_delay.desc).map (fun d => d.parameters.length) = some 1 := by decide +kernel
set_option maxHeartbeats 4000000 in
set_option maxRecDepth 100000 in
theorem c_X6_delay (l : Launch) (dC : Nat → ClassId) (dI : Nat → Nat → Nat) (cA : Nat → ClassId) (ad : Nat → Nat) (hI : Inj 12 ad) (M : Mem) (p0 : Int32) (hw0 : WFm M)  : Met l yX6_delay (.code yX6_delay cX6_delay 2 (some .long) :: AG) ({ frames := 3, cells := 0, slots := 0, locals := 67 } : Room) (va_Pc [.ref (ad (0)), .int p0] (PM dC dI cA ad M)) (va_Ql (fun r u => (r, u) = f_X6_delay M p0 ∧ WFm u) (PM dC dI cA ad) (adS 12 ad)) 0 0 (adS 12 ad) := by
  refine cMet (by decide) (Nat.le_of_ble_eq_true rfl) ?_
  intro p e s m below meth c ls hx hb hr hml hlocks hown hts hK hP hS hl
  have hA : ∀ q, adS 12 ad q → adS 12 ad q := fun _ h => h
  have hl : lv_has ls 2 [(0, .ref (ad (0))), (1, .int p0)] := hl
  obtain ⟨V, eV⟩ : ∃ z, z = f_X6_delay M p0 := ⟨_, rfl⟩
  have hv := eV
  unfold f_X6_delay at hv
  refine lv_aload_n hx hb dX6_delay_0 rfl (lv_at hl 0 rfl) ?_
  refine lv_iload_n hx hb dX6_delay_1 rfl (lv_at hl 1 rfl) ?_
  refine kVi hx hb hml hown hts hK hP hS hA (As := [.int p0]) (rest := []) (c_X6_noSample l dC dI cA ad hI M  p0 hw0 ) (mkV hts q_1021 q_53 q_1018 q_1020 q_31 hyX6_noSample rfl rfl ⟨(Nat.le_of_ble_eq_true rfl), (Nat.le_of_ble_eq_true rfl)⟩) (w_recv hK hP (k := 0) (by decide) lyM0 (q := (RX6, TX6, 26)) rfl) rfl hl.1 rfl (Nat.le_of_ble_eq_true rfl) dX6_delay_2 ⟨(Nat.le_of_ble_eq_true rfl), (Nat.le_of_ble_eq_true rfl)⟩ (fun r u H locs hw hP hS _ _ => ?_)
  obtain ⟨M_1, eM_1⟩ : ∃ z, z = u := ⟨_, rfl⟩
  rw [← eM_1] at hP hw
  obtain ⟨r_2, er_2⟩ : ∃ z, z = r := ⟨_, rfl⟩
  rw [← er_2] at hw
  refine w_eqi er_2.symm ?_
  obtain ⟨hw, wM_1⟩ := hw
  have gM_1 := hw
  have hv := bnd2_name hv hw
  have br_2 : r_2 = 0 ∨ r_2 = 1 := by have h9 := f_X6_noSample_b M  p0; rw [← hw] at h9; exact h9
  refine j0_eq (tgt := 12) hx hb dX6_delay_5 (by decide) (fun c_4 => ?_) (fun c_4 => ?_)
  · have hv := hv.trans (if_pos c_4)
    obtain ⟨j0, hj0, e9⟩ := (ns_of hw0 gM_1 c_4 : ∃ j, _ ∧ p0 = nI j)
    subst e9
    have hv := bnd_name hv (show j0 = (nI j0).toNatClampNeg from (nI_clamp (by omega)).symm)
    refine lv_aload_n hx hb dX6_delay_12 rfl (lv_at hl 0 rfl) ?_
    refine fg_X6_36 hx hb hts hK hP hown dX6_delay_13 ?_
    refine lv_aload_n hx hb dX6_delay_16 rfl (lv_at hl 0 rfl) ?_
    refine lv_iload_n hx hb dX6_delay_17 rfl (lv_at hl 1 rfl) ?_
    refine kVi hx hb hml hown hts hK hP hS hA (As := [.int (nI j0)]) (rest := [.ref (ad (8))]) (c_X6_best l dC dI cA ad hI M_1  (j0) (by omega) wM_1 ) (mkV hts q_1025 q_53 q_1022 q_1024 q_32 hyX6_best rfl rfl ⟨(Nat.le_of_ble_eq_true rfl), (Nat.le_of_ble_eq_true rfl)⟩) (w_recv hK hP (k := 0) (by decide) lyM0 (q := (RX6, TX6, 26)) rfl) rfl hl.1 rfl (Nat.le_of_ble_eq_true rfl) dX6_delay_18 ⟨(Nat.le_of_ble_eq_true rfl), (Nat.le_of_ble_eq_true rfl)⟩ (fun r u H locs hw hP hS _ _ => ?_)
    obtain ⟨hw, hu, hxp⟩ := hw
    rw [hu] at hP
    have hv := bnd_name hv hw
    obtain ⟨r_5, er_5⟩ : ∃ z, z = r := ⟨_, rfl⟩
    rw [← er_5] at hv hw hxp
    refine w_eqi er_5.symm ?_
    have gr_5 := hw
    have pr_5 := hxp
    have hin := pr_5
    refine w_lald hx hb hK hP (k := 8) (by decide) lyM8 hin dX6_delay_21 ?_
    exact W.lret (v := gJ M_1 1 (r_5).toNatClampNeg) hx hb hr (fun t ht hW => ⟨⟨_, M_1, rfl, ⟨hv.symm.trans eV, wM_1⟩, by rw [ht]; exact hP, va_K.moved hW.alike hK⟩, hS.F ht⟩) hS.2.2 dX6_delay_22
  · have hv := hv.trans (if_neg c_4)
    refine lv_lconst (v := 0) hx hb dX6_delay_8 (by decide) ?_
    refine lv_goto (tgt := 22) hx hb dX6_delay_9 (by decide) ?_
    exact W.lret (v := (0 : Int64)) hx hb hr (fun t ht hW => ⟨⟨_, M_1, rfl, ⟨hv.symm.trans eV, wM_1⟩, by rw [ht]; exact hP, va_K.moved hW.alike hK⟩, hS.F ht⟩) hS.2.2 dX6_delay_22
def f_X6_jitter (M : Mem) (p0 : Int32) : Int64 × Mem := bnd2 (f_X6_noSample M  p0) fun r_2 M_1 => if r_2 = (0 : Int32) then bnd ((p0).toNatClampNeg) fun j0 => bnd (f_X6_jitterOf M_1  (j0)) fun r_5 => (r_5, M_1) else ((0 : Int64), M_1)
theorem hyX6_jitter : yX6_jitter.cls ≠ "java/lang/invoke/MethodHandle" ∧ yX6_jitter.cls ≠ "java/lang/invoke/VarHandle" ∧ (parseMethodDescriptor yX6_jitter.desc).map (fun d => d.parameters.length) = some 1 := by decide +kernel
set_option maxHeartbeats 4000000 in
set_option maxRecDepth 100000 in
theorem c_X6_jitter (l : Launch) (dC : Nat → ClassId) (dI : Nat → Nat → Nat) (cA : Nat → ClassId) (ad : Nat → Nat) (hI : Inj 12 ad) (M : Mem) (p0 : Int32) (hw0 : WFm M)  : Met l yX6_jitter (.code yX6_jitter cX6_jitter 2 (some .long) :: AG) ({ frames := 3, cells := 0, slots := 0, locals := 67 } : Room) (va_Pc [.ref (ad (0)), .int p0] (PM dC dI cA ad M)) (va_Ql (fun r u => (r, u) = f_X6_jitter M p0 ∧ WFm u) (PM dC dI cA ad) (adS 12 ad)) 0 0 (adS 12 ad) := by
  refine cMet (by decide) (Nat.le_of_ble_eq_true rfl) ?_
  intro p e s m below meth c ls hx hb hr hml hlocks hown hts hK hP hS hl
  have hA : ∀ q, adS 12 ad q → adS 12 ad q := fun _ h => h
  have hl : lv_has ls 2 [(0, .ref (ad (0))), (1, .int p0)] := hl
  obtain ⟨V, eV⟩ : ∃ z, z = f_X6_jitter M p0 := ⟨_, rfl⟩
  have hv := eV
  unfold f_X6_jitter at hv
  refine lv_aload_n hx hb dX6_jitter_0 rfl (lv_at hl 0 rfl) ?_
  refine lv_iload_n hx hb dX6_jitter_1 rfl (lv_at hl 1 rfl) ?_
  refine kVi hx hb hml hown hts hK hP hS hA (As := [.int p0]) (rest := []) (c_X6_noSample l dC dI cA ad hI M  p0 hw0 ) (mkV hts q_1021 q_53 q_1018 q_1020 q_31 hyX6_noSample rfl rfl ⟨(Nat.le_of_ble_eq_true rfl), (Nat.le_of_ble_eq_true rfl)⟩) (w_recv hK hP (k := 0) (by decide) lyM0 (q := (RX6, TX6, 26)) rfl) rfl hl.1 rfl (Nat.le_of_ble_eq_true rfl) dX6_jitter_2 ⟨(Nat.le_of_ble_eq_true rfl), (Nat.le_of_ble_eq_true rfl)⟩ (fun r u H locs hw hP hS _ _ => ?_)
  obtain ⟨M_1, eM_1⟩ : ∃ z, z = u := ⟨_, rfl⟩
  rw [← eM_1] at hP hw
  obtain ⟨r_2, er_2⟩ : ∃ z, z = r := ⟨_, rfl⟩
  rw [← er_2] at hw
  refine w_eqi er_2.symm ?_
  obtain ⟨hw, wM_1⟩ := hw
  have gM_1 := hw
  have hv := bnd2_name hv hw
  have br_2 : r_2 = 0 ∨ r_2 = 1 := by have h9 := f_X6_noSample_b M  p0; rw [← hw] at h9; exact h9
  refine j0_eq (tgt := 12) hx hb dX6_jitter_5 (by decide) (fun c_4 => ?_) (fun c_4 => ?_)
  · have hv := hv.trans (if_pos c_4)
    obtain ⟨j0, hj0, e9⟩ := (ns_of hw0 gM_1 c_4 : ∃ j, _ ∧ p0 = nI j)
    subst e9
    have hv := bnd_name hv (show j0 = (nI j0).toNatClampNeg from (nI_clamp (by omega)).symm)
    refine lv_aload_n hx hb dX6_jitter_12 rfl (lv_at hl 0 rfl) ?_
    refine lv_iload_n hx hb dX6_jitter_13 rfl (lv_at hl 1 rfl) ?_
    refine kVl hx hb hml hown hts hK hP hS hA (As := [.int (nI j0)]) (rest := []) (c_X6_jitterOf l dC dI cA ad hI M_1  (j0) (by omega) wM_1 ) (mkV hts q_1037 q_53 q_1034 q_1036 q_33 hyX6_jitterOf rfl rfl ⟨(Nat.le_of_ble_eq_true rfl), (Nat.le_of_ble_eq_true rfl)⟩) (w_recv hK hP (k := 0) (by decide) lyM0 (q := (RX6, TX6, 26)) rfl) rfl hl.1 rfl (Nat.le_of_ble_eq_true rfl) dX6_jitter_14 ⟨(Nat.le_of_ble_eq_true rfl), (Nat.le_of_ble_eq_true rfl)⟩ (fun r u H locs hw hP hS _ _ => ?_)
    obtain ⟨hw, hu⟩ := hw
    rw [hu] at hP
    have hv := bnd_name hv hw
    obtain ⟨r_5, er_5⟩ : ∃ z, z = r := ⟨_, rfl⟩
    rw [← er_5] at hv hw
    refine w_eql er_5.symm ?_
    have gr_5 := hw
    exact W.lret (v := r_5) hx hb hr (fun t ht hW => ⟨⟨_, M_1, rfl, ⟨hv.symm.trans eV, wM_1⟩, by rw [ht]; exact hP, va_K.moved hW.alike hK⟩, hS.F ht⟩) hS.2.2 dX6_jitter_17
  · have hv := hv.trans (if_neg c_4)
    refine lv_lconst (v := 0) hx hb dX6_jitter_8 (by decide) ?_
    refine lv_goto (tgt := 17) hx hb dX6_jitter_9 (by decide) ?_
    exact W.lret (v := (0 : Int64)) hx hb hr (fun t ht hW => ⟨⟨_, M_1, rfl, ⟨hv.symm.trans eV, wM_1⟩, by rw [ht]; exact hP, va_K.moved hW.alike hK⟩, hS.F ht⟩) hS.2.2 dX6_jitter_17
def f_X6_distance (M : Mem) (p0 : Int32) : Int64 × Mem := bnd2 (f_X6_noSample M  p0) fun r_2 M_1 => if r_2 = (0 : Int32) then bnd ((p0).toNatClampNeg) fun j0 => bnd (f_X6_distanceOf M_1  (j0)) fun r_5 => (r_5, M_1) else ((0 : Int64), M_1)
theorem hyX6_distance : yX6_distance.cls ≠ "java/lang/invoke/MethodHandle" ∧ yX6_distance.cls ≠ "java/lang/invoke/VarHandle" ∧ (parseMethodDescriptor yX6_distance.desc).map (fun d => d.parameters.length) = some 1 := by decide +kernel
set_option maxHeartbeats 4000000 in
set_option maxRecDepth 100000 in
theorem c_X6_distance (l : Launch) (dC : Nat → ClassId) (dI : Nat → Nat → Nat) (cA : Nat → ClassId) (ad : Nat → Nat) (hI : Inj 12 ad) (M : Mem) (p0 : Int32) (hw0 : WFm M)  : Met l yX6_distance (.code yX6_distance cX6_distance 2 (some .long) :: AG) ({ frames := 3, cells := 0, slots := 0, locals := 69 } : Room) (va_Pc [.ref (ad (0)), .int p0] (PM dC dI cA ad M)) (va_Ql (fun r u => (r, u) = f_X6_distance M p0 ∧ WFm u) (PM dC dI cA ad) (adS 12 ad)) 0 0 (adS 12 ad) := by
  refine cMet (by decide) (Nat.le_of_ble_eq_true rfl) ?_
  intro p e s m below meth c ls hx hb hr hml hlocks hown hts hK hP hS hl
  have hA : ∀ q, adS 12 ad q → adS 12 ad q := fun _ h => h
  have hl : lv_has ls 2 [(0, .ref (ad (0))), (1, .int p0)] := hl
  obtain ⟨V, eV⟩ : ∃ z, z = f_X6_distance M p0 := ⟨_, rfl⟩
  have hv := eV
  unfold f_X6_distance at hv
  refine lv_aload_n hx hb dX6_distance_0 rfl (lv_at hl 0 rfl) ?_
  refine lv_iload_n hx hb dX6_distance_1 rfl (lv_at hl 1 rfl) ?_
  refine kVi hx hb hml hown hts hK hP hS hA (As := [.int p0]) (rest := []) (c_X6_noSample l dC dI cA ad hI M  p0 hw0 ) (mkV hts q_1021 q_53 q_1018 q_1020 q_31 hyX6_noSample rfl rfl ⟨(Nat.le_of_ble_eq_true rfl), (Nat.le_of_ble_eq_true rfl)⟩) (w_recv hK hP (k := 0) (by decide) lyM0 (q := (RX6, TX6, 26)) rfl) rfl hl.1 rfl (Nat.le_of_ble_eq_true rfl) dX6_distance_2 ⟨(Nat.le_of_ble_eq_true rfl), (Nat.le_of_ble_eq_true rfl)⟩ (fun r u H locs hw hP hS _ _ => ?_)
  obtain ⟨M_1, eM_1⟩ : ∃ z, z = u := ⟨_, rfl⟩
  rw [← eM_1] at hP hw
  obtain ⟨r_2, er_2⟩ : ∃ z, z = r := ⟨_, rfl⟩
  rw [← er_2] at hw
  refine w_eqi er_2.symm ?_
  obtain ⟨hw, wM_1⟩ := hw
  have gM_1 := hw
  have hv := bnd2_name hv hw
  have br_2 : r_2 = 0 ∨ r_2 = 1 := by have h9 := f_X6_noSample_b M  p0; rw [← hw] at h9; exact h9
  refine j0_eq (tgt := 12) hx hb dX6_distance_5 (by decide) (fun c_4 => ?_) (fun c_4 => ?_)
  · have hv := hv.trans (if_pos c_4)
    obtain ⟨j0, hj0, e9⟩ := (ns_of hw0 gM_1 c_4 : ∃ j, _ ∧ p0 = nI j)
    subst e9
    have hv := bnd_name hv (show j0 = (nI j0).toNatClampNeg from (nI_clamp (by omega)).symm)
    refine lv_aload_n hx hb dX6_distance_12 rfl (lv_at hl 0 rfl) ?_
    refine lv_iload_n hx hb dX6_distance_13 rfl (lv_at hl 1 rfl) ?_
    refine kVl hx hb hml hown hts hK hP hS hA (As := [.int (nI j0)]) (rest := []) (c_X6_distanceOf l dC dI cA ad hI M_1  (j0) (by omega) wM_1 ) (mkV hts q_1048 q_53 q_1045 q_1047 q_34 hyX6_distanceOf rfl rfl ⟨(Nat.le_of_ble_eq_true rfl), (Nat.le_of_ble_eq_true rfl)⟩) (w_recv hK hP (k := 0) (by decide) lyM0 (q := (RX6, TX6, 26)) rfl) rfl hl.1 rfl (Nat.le_of_ble_eq_true rfl) dX6_distance_14 ⟨(Nat.le_of_ble_eq_true rfl), (Nat.le_of_ble_eq_true rfl)⟩ (fun r u H locs hw hP hS _ _ => ?_)
    obtain ⟨hw, hu⟩ := hw
    rw [hu] at hP
    have hv := bnd_name hv hw
    obtain ⟨r_5, er_5⟩ : ∃ z, z = r := ⟨_, rfl⟩
    rw [← er_5] at hv hw
    refine w_eql er_5.symm ?_
    have gr_5 := hw
    exact W.lret (v := r_5) hx hb hr (fun t ht hW => ⟨⟨_, M_1, rfl, ⟨hv.symm.trans eV, wM_1⟩, by rw [ht]; exact hP, va_K.moved hW.alike hK⟩, hS.F ht⟩) hS.2.2 dX6_distance_17
  · have hv := hv.trans (if_neg c_4)
    refine lv_lconst (v := 0) hx hb dX6_distance_8 (by decide) ?_
    refine lv_goto (tgt := 17) hx hb dX6_distance_9 (by decide) ?_
    exact W.lret (v := (0 : Int64)) hx hb hr (fun t ht hW => ⟨⟨_, M_1, rfl, ⟨hv.symm.trans eV, wM_1⟩, by rw [ht]; exact hP, va_K.moved hW.alike hK⟩, hS.F ht⟩) hS.2.2 dX6_distance_17
def f_X6_from (M : Mem) (j0 : Nat) : Int64 := bnd (f_X6_best M  (j0)) fun r_1 => bnd (f_X6_distanceOf M  (j0)) fun r_2 => (gJ M 0 (r_1).toNatClampNeg - r_2)
theorem hyX6_from : yX6_from.cls ≠ "java/lang/invoke/MethodHandle" ∧ yX6_from.cls ≠ "java/lang/invoke/VarHandle" ∧ (parseMethodDescriptor yX6_from.desc).map (fun d => d.parameters.length) = some 1 := by decide +kernel
set_option maxHeartbeats 4000000 in
set_option maxRecDepth 100000 in
theorem c_X6_from (l : Launch) (dC : Nat → ClassId) (dI : Nat → Nat → Nat) (cA : Nat → ClassId) (ad : Nat → Nat) (hI : Inj 12 ad) (M : Mem) (j0 : Nat) (hj0 : j0 < 8) (hw0 : WFm M)  : Met l yX6_from (.code yX6_from cX6_from 2 (some .long) :: AG) ({ frames := 3, cells := 0, slots := 0, locals := 69 } : Room) (va_Pc [.ref (ad (0)), .int (nI j0)] (PM dC dI cA ad M)) (va_Ql (fun r u => r = f_X6_from M j0 ∧ u = M) (PM dC dI cA ad) (adS 12 ad)) 0 0 (adS 12 ad) := by
  refine cMet (by decide) (Nat.le_of_ble_eq_true rfl) ?_
  intro p e s m below meth c ls hx hb hr hml hlocks hown hts hK hP hS hl
  have hA : ∀ q, adS 12 ad q → adS 12 ad q := fun _ h => h
  have hl : lv_has ls 2 [(0, .ref (ad (0))), (1, .int (nI j0))] := hl
  obtain ⟨V, eV⟩ : ∃ z, z = f_X6_from M j0 := ⟨_, rfl⟩
  have hv := eV
  unfold f_X6_from at hv
  refine lv_aload_n hx hb dX6_from_0 rfl (lv_at hl 0 rfl) ?_
  refine fg_X6_32 hx hb hts hK hP hown dX6_from_1 ?_
  refine lv_aload_n hx hb dX6_from_4 rfl (lv_at hl 0 rfl) ?_
  refine lv_iload_n hx hb dX6_from_5 rfl (lv_at hl 1 rfl) ?_
  refine kVi hx hb hml hown hts hK hP hS hA (As := [.int (nI j0)]) (rest := [.ref (ad (7))]) (c_X6_best l dC dI cA ad hI M  (j0) (by omega) hw0 ) (mkV hts q_1025 q_53 q_1022 q_1024 q_32 hyX6_best rfl rfl ⟨(Nat.le_of_ble_eq_true rfl), (Nat.le_of_ble_eq_true rfl)⟩) (w_recv hK hP (k := 0) (by decide) lyM0 (q := (RX6, TX6, 26)) rfl) rfl hl.1 rfl (Nat.le_of_ble_eq_true rfl) dX6_from_6 ⟨(Nat.le_of_ble_eq_true rfl), (Nat.le_of_ble_eq_true rfl)⟩ (fun r u H locs hw hP hS _ _ => ?_)
  obtain ⟨hw, hu, hxp⟩ := hw
  rw [hu] at hP
  have hv := bnd_name hv hw
  obtain ⟨r_1, er_1⟩ : ∃ z, z = r := ⟨_, rfl⟩
  rw [← er_1] at hv hw hxp
  refine w_eqi er_1.symm ?_
  have gr_1 := hw
  have pr_1 := hxp
  have hin := pr_1
  refine w_lald hx hb hK hP (k := 7) (by decide) lyM7 hin dX6_from_9 ?_
  refine lv_aload_n hx hb dX6_from_10 rfl (lv_at hl 0 rfl) ?_
  refine lv_iload_n hx hb dX6_from_11 rfl (lv_at hl 1 rfl) ?_
  refine kVl hx hb hml hown hts hK hP hS hA (As := [.int (nI j0)]) (rest := [.long (gJ M 0 (r_1).toNatClampNeg)]) (c_X6_distanceOf l dC dI cA ad hI M  (j0) (by omega) hw0 ) (mkV hts q_1048 q_53 q_1045 q_1047 q_34 hyX6_distanceOf rfl rfl ⟨(Nat.le_of_ble_eq_true rfl), (Nat.le_of_ble_eq_true rfl)⟩) (w_recv hK hP (k := 0) (by decide) lyM0 (q := (RX6, TX6, 26)) rfl) rfl hl.1 rfl (Nat.le_of_ble_eq_true rfl) dX6_from_12 ⟨(Nat.le_of_ble_eq_true rfl), (Nat.le_of_ble_eq_true rfl)⟩ (fun r u H locs hw hP hS _ _ => ?_)
  obtain ⟨hw, hu⟩ := hw
  rw [hu] at hP
  have hv := bnd_name hv hw
  obtain ⟨r_2, er_2⟩ : ∃ z, z = r := ⟨_, rfl⟩
  rw [← er_2] at hv hw
  refine w_eql er_2.symm ?_
  have gr_2 := hw
  refine lv_lsub hx hb dX6_from_15 ?_
  exact W.lret (v := (gJ M 0 (r_1).toNatClampNeg - r_2)) hx hb hr (fun t ht hW => ⟨⟨_, M, rfl, ⟨hv.symm.trans eV, rfl⟩, by rw [ht]; exact hP, va_K.moved hW.alike hK⟩, hS.F ht⟩) hS.2.2 dX6_from_16
def f_X6_to (M : Mem) (j0 : Nat) : Int64 := bnd (f_X6_best M  (j0)) fun r_1 => bnd (f_X6_distanceOf M  (j0)) fun r_2 => (gJ M 0 (r_1).toNatClampNeg + r_2)
theorem hyX6_to : yX6_to.cls ≠ "java/lang/invoke/MethodHandle" ∧ yX6_to.cls ≠ "java/lang/invoke/VarHandle" ∧ (parseMethodDescriptor yX6_to.desc).map (fun d => d.parameters.length) = some 1 := by decide +kernel
set_option maxHeartbeats 4000000 in
set_option maxRecDepth 100000 in
theorem c_X6_to (l : Launch) (dC : Nat → ClassId) (dI : Nat → Nat → Nat) (cA : Nat → ClassId) (ad : Nat → Nat) (hI : Inj 12 ad) (M : Mem) (j0 : Nat) (hj0 : j0 < 8) (hw0 : WFm M)  : Met l yX6_to (.code yX6_to cX6_to 2 (some .long) :: AG) ({ frames := 3, cells := 0, slots := 0, locals := 69 } : Room) (va_Pc [.ref (ad (0)), .int (nI j0)] (PM dC dI cA ad M)) (va_Ql (fun r u => r = f_X6_to M j0 ∧ u = M) (PM dC dI cA ad) (adS 12 ad)) 0 0 (adS 12 ad) := by
  refine cMet (by decide) (Nat.le_of_ble_eq_true rfl) ?_
  intro p e s m below meth c ls hx hb hr hml hlocks hown hts hK hP hS hl
  have hA : ∀ q, adS 12 ad q → adS 12 ad q := fun _ h => h
  have hl : lv_has ls 2 [(0, .ref (ad (0))), (1, .int (nI j0))] := hl
  obtain ⟨V, eV⟩ : ∃ z, z = f_X6_to M j0 := ⟨_, rfl⟩
  have hv := eV
  unfold f_X6_to at hv
  refine lv_aload_n hx hb dX6_to_0 rfl (lv_at hl 0 rfl) ?_
  refine fg_X6_32 hx hb hts hK hP hown dX6_to_1 ?_
  refine lv_aload_n hx hb dX6_to_4 rfl (lv_at hl 0 rfl) ?_
  refine lv_iload_n hx hb dX6_to_5 rfl (lv_at hl 1 rfl) ?_
  refine kVi hx hb hml hown hts hK hP hS hA (As := [.int (nI j0)]) (rest := [.ref (ad (7))]) (c_X6_best l dC dI cA ad hI M  (j0) (by omega) hw0 ) (mkV hts q_1025 q_53 q_1022 q_1024 q_32 hyX6_best rfl rfl ⟨(Nat.le_of_ble_eq_true rfl), (Nat.le_of_ble_eq_true rfl)⟩) (w_recv hK hP (k := 0) (by decide) lyM0 (q := (RX6, TX6, 26)) rfl) rfl hl.1 rfl (Nat.le_of_ble_eq_true rfl) dX6_to_6 ⟨(Nat.le_of_ble_eq_true rfl), (Nat.le_of_ble_eq_true rfl)⟩ (fun r u H locs hw hP hS _ _ => ?_)
  obtain ⟨hw, hu, hxp⟩ := hw
  rw [hu] at hP
  have hv := bnd_name hv hw
  obtain ⟨r_1, er_1⟩ : ∃ z, z = r := ⟨_, rfl⟩
  rw [← er_1] at hv hw hxp
  refine w_eqi er_1.symm ?_
  have gr_1 := hw
  have pr_1 := hxp
  have hin := pr_1
  refine w_lald hx hb hK hP (k := 7) (by decide) lyM7 hin dX6_to_9 ?_
  refine lv_aload_n hx hb dX6_to_10 rfl (lv_at hl 0 rfl) ?_
  refine lv_iload_n hx hb dX6_to_11 rfl (lv_at hl 1 rfl) ?_
  refine kVl hx hb hml hown hts hK hP hS hA (As := [.int (nI j0)]) (rest := [.long (gJ M 0 (r_1).toNatClampNeg)]) (c_X6_distanceOf l dC dI cA ad hI M  (j0) (by omega) hw0 ) (mkV hts q_1048 q_53 q_1045 q_1047 q_34 hyX6_distanceOf rfl rfl ⟨(Nat.le_of_ble_eq_true rfl), (Nat.le_of_ble_eq_true rfl)⟩) (w_recv hK hP (k := 0) (by decide) lyM0 (q := (RX6, TX6, 26)) rfl) rfl hl.1 rfl (Nat.le_of_ble_eq_true rfl) dX6_to_12 ⟨(Nat.le_of_ble_eq_true rfl), (Nat.le_of_ble_eq_true rfl)⟩ (fun r u H locs hw hP hS _ _ => ?_)
  obtain ⟨hw, hu⟩ := hw
  rw [hu] at hP
  have hv := bnd_name hv hw
  obtain ⟨r_2, er_2⟩ : ∃ z, z = r := ⟨_, rfl⟩
  rw [← er_2] at hv hw
  refine w_eql er_2.symm ?_
  have gr_2 := hw
  refine lv_ladd hx hb dX6_to_15 ?_
  exact W.lret (v := (gJ M 0 (r_1).toNatClampNeg + r_2)) hx hb hr (fun t ht hW => ⟨⟨_, M, rfl, ⟨hv.symm.trans eV, rfl⟩, by rw [ht]; exact hP, va_K.moved hW.alike hK⟩, hS.F ht⟩) hS.2.2 dX6_to_16
def f_X6_has (M : Mem) (j0 : Nat) (p1 : Int64) : Int32 := if (0 : Int32) < nI (kn M (j0)) then bnd (f_X6_from M  (j0)) fun r_3 => if p1 < r_3 then (0 : Int32) else bnd (f_X6_to M  (j0)) fun r_5 => if r_5 < p1 then (0 : Int32) else (1 : Int32) else (0 : Int32)
theorem hyX6_has : yX6_has.cls ≠ "java/lang/invoke/MethodHandle" ∧ yX6_has.cls ≠ "java/lang/invoke/VarHandle" ∧ (parseMethodDescriptor yX6_has.desc).map (fun d => d.parameters.length) = some 2 := by decide +kernel
set_option maxHeartbeats 4000000 in
set_option maxRecDepth 100000 in
theorem c_X6_has (l : Launch) (dC : Nat → ClassId) (dI : Nat → Nat → Nat) (cA : Nat → ClassId) (ad : Nat → Nat) (hI : Inj 12 ad) (M : Mem) (j0 : Nat) (hj0 : j0 < 8) (p1 : Int64) (hw0 : WFm M)  : Met l yX6_has (.code yX6_has cX6_has 4 (some .boolean) :: AG) ({ frames := 4, cells := 0, slots := 0, locals := 90 } : Room) (va_Pc [.ref (ad (0)), .int (nI j0), .long p1] (PM dC dI cA ad M)) (va_Qi (fun r u => r = f_X6_has M j0 p1 ∧ u = M) (PM dC dI cA ad) (adS 12 ad)) 0 0 (adS 12 ad) := by
  refine cMet (by decide) (Nat.le_of_ble_eq_true rfl) ?_
  intro p e s m below meth c ls hx hb hr hml hlocks hown hts hK hP hS hl
  have hA : ∀ q, adS 12 ad q → adS 12 ad q := fun _ h => h
  have hl : lv_has ls 4 [(0, .ref (ad (0))), (1, .int (nI j0)), (2, .long p1)] := hl
  obtain ⟨V, eV⟩ : ∃ z, z = f_X6_has M j0 p1 := ⟨_, rfl⟩
  have hv := eV
  unfold f_X6_has at hv
  refine lv_aload_n hx hb dX6_has_0 rfl (lv_at hl 0 rfl) ?_
  refine fg_X6_29 hx hb hts hK hP hown dX6_has_1 ?_
  refine lv_iload_n hx hb dX6_has_4 rfl (lv_at hl 1 rfl) ?_
  refine w_ialdN hx hb hK hP (k := 6) (by decide) lyM6 (i := j0) (by omega) (by decide) dX6_has_5 ?_
  have q_1 := (WFk hw0 (j := j0) (by omega)).1
  refine w_eqi (y := nI (kn M (j0))) (WFk hw0 (j := j0) (by omega)).2 ?_
  refine j0_le (tgt := 33) hx hb dX6_has_6 (by decide) (fun c_2 => ?_) (fun c_2 => ?_)
  · have hv := hv.trans (if_pos c_2)
    refine lv_aload_n hx hb dX6_has_9 rfl (lv_at hl 0 rfl) ?_
    refine lv_iload_n hx hb dX6_has_10 rfl (lv_at hl 1 rfl) ?_
    refine kVl hx hb hml hown hts hK hP hS hA (As := [.int (nI j0)]) (rest := []) (c_X6_from l dC dI cA ad hI M  (j0) (by omega) hw0 ) (mkV hts q_1061 q_53 q_1058 q_1060 q_36 hyX6_from rfl rfl ⟨(Nat.le_of_ble_eq_true rfl), (Nat.le_of_ble_eq_true rfl)⟩) (w_recv hK hP (k := 0) (by decide) lyM0 (q := (RX6, TX6, 26)) rfl) rfl hl.1 rfl (Nat.le_of_ble_eq_true rfl) dX6_has_11 ⟨(Nat.le_of_ble_eq_true rfl), (Nat.le_of_ble_eq_true rfl)⟩ (fun r u H locs hw hP hS _ _ => ?_)
    obtain ⟨hw, hu⟩ := hw
    rw [hu] at hP
    have hv := bnd_name hv hw
    obtain ⟨r_3, er_3⟩ : ∃ z, z = r := ⟨_, rfl⟩
    rw [← er_3] at hv hw
    refine w_eql er_3.symm ?_
    have gr_3 := hw
    refine lv_lload_n hx hb dX6_has_14 rfl (lv_at hl 2 rfl) ?_
    refine jL_gt (tgt := 33) hx hb dX6_has_15 dX6_has_16 (by decide) (fun c_4 => ?_) (fun c_4 => ?_)
    · have hv := hv.trans (if_pos c_4)
      refine lv_iconst (v := 0) hx hb dX6_has_33 (by decide) ?_
      exact W.zret (v := (0 : Int32)) hx hb hr rfl (fun t ht hW => ⟨⟨_, M, rfl, ⟨hv.symm.trans eV, rfl⟩, by rw [ht]; exact hP, va_K.moved hW.alike hK⟩, hS.F ht⟩) hS.2.2 dX6_has_34
    · have hv := hv.trans (if_neg c_4)
      refine lv_lload_n hx hb dX6_has_19 rfl (lv_at hl 2 rfl) ?_
      refine lv_aload_n hx hb dX6_has_20 rfl (lv_at hl 0 rfl) ?_
      refine lv_iload_n hx hb dX6_has_21 rfl (lv_at hl 1 rfl) ?_
      refine kVl hx hb hml hown hts hK hP hS hA (As := [.int (nI j0)]) (rest := [.long p1]) (c_X6_to l dC dI cA ad hI M  (j0) (by omega) hw0 ) (mkV hts q_1073 q_53 q_1070 q_1072 q_39 hyX6_to rfl rfl ⟨(Nat.le_of_ble_eq_true rfl), (Nat.le_of_ble_eq_true rfl)⟩) (w_recv hK hP (k := 0) (by decide) lyM0 (q := (RX6, TX6, 26)) rfl) rfl hl.1 rfl (Nat.le_of_ble_eq_true rfl) dX6_has_22 ⟨(Nat.le_of_ble_eq_true rfl), (Nat.le_of_ble_eq_true rfl)⟩ (fun r u H locs hw hP hS _ _ => ?_)
      obtain ⟨hw, hu⟩ := hw
      rw [hu] at hP
      have hv := bnd_name hv hw
      obtain ⟨r_5, er_5⟩ : ∃ z, z = r := ⟨_, rfl⟩
      rw [← er_5] at hv hw
      refine w_eql er_5.symm ?_
      have gr_5 := hw
      refine jL_gt (tgt := 33) hx hb dX6_has_25 dX6_has_26 (by decide) (fun c_6 => ?_) (fun c_6 => ?_)
      · have hv := hv.trans (if_pos c_6)
        refine lv_iconst (v := 0) hx hb dX6_has_33 (by decide) ?_
        exact W.zret (v := (0 : Int32)) hx hb hr rfl (fun t ht hW => ⟨⟨_, M, rfl, ⟨hv.symm.trans eV, rfl⟩, by rw [ht]; exact hP, va_K.moved hW.alike hK⟩, hS.F ht⟩) hS.2.2 dX6_has_34
      · have hv := hv.trans (if_neg c_6)
        refine lv_iconst (v := 1) hx hb dX6_has_29 (by decide) ?_
        refine lv_goto (tgt := 34) hx hb dX6_has_30 (by decide) ?_
        exact W.zret (v := (1 : Int32)) hx hb hr rfl (fun t ht hW => ⟨⟨_, M, rfl, ⟨hv.symm.trans eV, rfl⟩, by rw [ht]; exact hP, va_K.moved hW.alike hK⟩, hS.F ht⟩) hS.2.2 dX6_has_34
  · have hv := hv.trans (if_neg c_2)
    have hc_2 : ¬ 0 < kn M (j0) := fun h => c_2 (nI_lt h (by omega))
    refine lv_iconst (v := 0) hx hb dX6_has_33 (by decide) ?_
    exact W.zret (v := (0 : Int32)) hx hb hr rfl (fun t ht hW => ⟨⟨_, M, rfl, ⟨hv.symm.trans eV, rfl⟩, by rw [ht]; exact hP, va_K.moved hW.alike hK⟩, hS.F ht⟩) hS.2.2 dX6_has_34
theorem f_X6_has_b (M : Mem) (j0 : Nat) (p1 : Int64) : (f_X6_has M j0 p1) = 0 ∨ (f_X6_has M j0 p1) = 1 := by
  unfold f_X6_has
  repeat' (first | with_reducible refine bnd_or (fun _ => ?_) | with_reducible refine bnd2_or (fun _ _ => ?_) | with_reducible refine ite_or ?_ ?_ | exact Or.inl rfl | exact Or.inr rfl)
def f_X6_covers_L5 (M : Mem) (p0 : Int64) : Nat → Nat → Int32 → Int32
  | 0, _, _ => 0
  | r + 1, i, y3_5 => if nI i < nI (sn M) then bnd (f_X6_has M  (i) p0) fun r_3 => if r_3 = (0 : Int32) then bnd ((y3_5 + (0 : Int32))) fun x_5 => f_X6_covers_L5 M p0 r (i + 1) x_5 else bnd ((y3_5 + (1 : Int32))) fun x_6 => f_X6_covers_L5 M p0 r (i + 1) x_6 else y3_5
def f_X6_covers (M : Mem) (p0 : Int64) : Int32 := f_X6_covers_L5 M p0 (sn M + 1 - 0) 0 (0 : Int32)
theorem hyX6_covers : yX6_covers.cls ≠ "java/lang/invoke/MethodHandle" ∧ yX6_covers.cls ≠ "java/lang/invoke/VarHandle" ∧ (parseMethodDescriptor yX6_covers.desc).map (fun d => d.parameters.length) = some 1 := by decide +kernel
set_option maxHeartbeats 4000000 in
set_option maxRecDepth 100000 in
theorem c_X6_covers (l : Launch) (dC : Nat → ClassId) (dI : Nat → Nat → Nat) (cA : Nat → ClassId) (ad : Nat → Nat) (hI : Inj 12 ad) (M : Mem) (p0 : Int64) (hw0 : WFm M)  : Met l yX6_covers (.code yX6_covers cX6_covers 5 (some .int) :: AG) ({ frames := 5, cells := 0, slots := 0, locals := 113 } : Room) (va_Pc [.ref (ad (0)), .long p0] (PM dC dI cA ad M)) (va_Qi (fun r u => r = f_X6_covers M p0 ∧ u = M) (PM dC dI cA ad) (adS 12 ad)) 0 0 (adS 12 ad) := by
  refine cMet (by decide) (Nat.le_of_ble_eq_true rfl) ?_
  intro p e s m below meth c ls hx hb hr hml hlocks hown hts hK hP hS hl
  have hA : ∀ q, adS 12 ad q → adS 12 ad q := fun _ h => h
  have hl : lv_has ls 5 [(0, .ref (ad (0))), (1, .long p0)] := hl
  obtain ⟨V, eV⟩ : ∃ z, z = f_X6_covers M p0 := ⟨_, rfl⟩
  have hv := eV
  unfold f_X6_covers at hv
  have hsn := (WFs hw0).1
  refine lv_iconst (v := 0) hx hb dX6_covers_0 (by decide) ?_
  refine lv_istore_n (lv' := [(3, .int (0 : Int32)), (0, .ref (ad (0))), (1, .long p0)]) hx hb dX6_covers_1 rfl hl (by decide) rfl (fun ls hl => ?_)
  refine lv_iconst (v := 0) hx hb dX6_covers_2 (by decide) ?_
  refine lv_istore (lv' := [(4, .int (0 : Int32)), (3, .int (0 : Int32)), (0, .ref (ad (0))), (1, .long p0)]) hx hb dX6_covers_3 hl (by decide) rfl (fun ls hl => ?_)
  have L5 : ∀ (r i : Nat) (y3_5 : Int32) (H : Heap) (locs : List Loc) (ls : Array Slot), i + r = sn M + 1 → i ≤ sn M → V = f_X6_covers_L5 M p0 r i y3_5 → va_P (dC, dI) vwCl (wld 12 layM cA ad M) H → va_S (adS 12 ad) s.heap H locs → lv_has ls 5 [(4, .int (nI i)), (3, .int y3_5), (0, .ref (ad (0))), (1, .long p0)] → W p l e ({ frames := 5, cells := 0, slots := 0, locals := 113 } : Room) s m ([.ref (ad (0)), .long p0] : List Value).toArray below meth c H locs 0 0 (MQ below (va_Qi (fun r u => r = f_X6_covers M p0 ∧ u = M) (PM dC dI cA ad) (adS 12 ad)) ([.ref (ad (0)), .long p0] : List Value).toArray s 0 0 (adS 12 ad)) (F0 m 5 ls []) := by
    intro r
    induction r with
    | zero =>
      intro i y3_5 H locs ls hir hib
      omega
    | succ r ih =>
      intro i y3_5 H locs ls hir hib hv hP hS hl
      rw [f_X6_covers_L5] at hv
      refine lv_iload hx hb dX6_covers_5 (lv_at hl 0 rfl) ?_
      refine lv_aload_n hx hb dX6_covers_7 rfl (lv_at hl 2 rfl) ?_
      refine fg_X6_95 hx hb hts hK hP hown dX6_covers_8 ?_
      have q_1 := (WFs hw0).1
      refine w_eqi (y := nI (sn M)) (WFs hw0).2 ?_
      refine jI_ge (tgt := 38) hx hb dX6_covers_11 (by decide) (fun c_2 => ?_) (fun c_2 => ?_)
      · have hv := hv.trans (if_pos c_2)
        have hc_2 : i < sn M := nI_lt8 c_2 (by omega) (by omega)
        refine lv_iload_n hx hb dX6_covers_14 rfl (lv_at hl 1 rfl) ?_
        refine lv_aload_n hx hb dX6_covers_15 rfl (lv_at hl 2 rfl) ?_
        refine lv_iload hx hb dX6_covers_16 (lv_at hl 0 rfl) ?_
        refine lv_lload_n hx hb dX6_covers_18 rfl (lv_at hl 3 rfl) ?_
        refine kVi hx hb hml hown hts hK hP hS hA (As := [.int (nI i), .long p0]) (rest := [.int y3_5]) (c_X6_has l dC dI cA ad hI M  (i) (by omega) p0 hw0 ) (mkV hts q_1069 q_53 q_1066 q_1068 q_38 hyX6_has rfl rfl ⟨(Nat.le_of_ble_eq_true rfl), (Nat.le_of_ble_eq_true rfl)⟩) (w_recv hK hP (k := 0) (by decide) lyM0 (q := (RX6, TX6, 26)) rfl) rfl hl.1 rfl (Nat.le_of_ble_eq_true rfl) dX6_covers_19 ⟨(Nat.le_of_ble_eq_true rfl), (Nat.le_of_ble_eq_true rfl)⟩ (fun r u H locs hw hP hS _ _ => ?_)
        obtain ⟨hw, hu⟩ := hw
        rw [hu] at hP
        have hv := bnd_name hv hw
        obtain ⟨r_3, er_3⟩ : ∃ z, z = r := ⟨_, rfl⟩
        rw [← er_3] at hv hw
        refine w_eqi er_3.symm ?_
        have gr_3 := hw
        have br_3 : r_3 = 0 ∨ r_3 = 1 := by rw [hw]; exact f_X6_has_b M  (i) p0
        refine j0_eq (tgt := 29) hx hb dX6_covers_22 (by decide) (fun c_4 => ?_) (fun c_4 => ?_)
        · have hv := hv.trans (if_pos c_4)
          refine lv_iconst (v := 0) hx hb dX6_covers_29 (by decide) ?_
          refine lv_iadd hx hb dX6_covers_30 ?_
          refine lv_topi (fun x_5 ex_5 => ?_)
          have hv := bnd_name hv ex_5
          refine lv_istore_n (lv' := [(3, .int x_5), (4, .int (nI i)), (0, .ref (ad (0))), (1, .long p0)]) hx hb dX6_covers_31 rfl hl (by decide) rfl (fun ls hl => ?_)
          refine lv_iinc (v := nI (i + 1)) (lv' := [(4, .int (nI (i + 1))), (3, .int x_5), (0, .ref (ad (0))), (1, .long p0)]) hx hb dX6_covers_32 hl (k := 1) rfl (show nI (i) + 1 = nI (i + 1) from nI_1 _) (by decide) rfl (fun ls hl => ?_)
          refine lv_goto (tgt := 5) hx hb dX6_covers_35 (by decide) ?_
          exact ih (i + 1) x_5 _ _ _ (by omega) (by omega)  hv hP hS (lv_sub hl [0, 1, 2, 3] rfl)
        · have hv := hv.trans (if_neg c_4)
          refine lv_iconst (v := 1) hx hb dX6_covers_25 (by decide) ?_
          refine lv_goto (tgt := 30) hx hb dX6_covers_26 (by decide) ?_
          refine lv_iadd hx hb dX6_covers_30 ?_
          refine lv_topi (fun x_6 ex_6 => ?_)
          have hv := bnd_name hv ex_6
          refine lv_istore_n (lv' := [(3, .int x_6), (4, .int (nI i)), (0, .ref (ad (0))), (1, .long p0)]) hx hb dX6_covers_31 rfl hl (by decide) rfl (fun ls hl => ?_)
          refine lv_iinc (v := nI (i + 1)) (lv' := [(4, .int (nI (i + 1))), (3, .int x_6), (0, .ref (ad (0))), (1, .long p0)]) hx hb dX6_covers_32 hl (k := 1) rfl (show nI (i) + 1 = nI (i + 1) from nI_1 _) (by decide) rfl (fun ls hl => ?_)
          refine lv_goto (tgt := 5) hx hb dX6_covers_35 (by decide) ?_
          exact ih (i + 1) x_6 _ _ _ (by omega) (by omega)  hv hP hS (lv_sub hl [0, 1, 2, 3] rfl)
      · have hv := hv.trans (if_neg c_2)
        have hc_2 : ¬ i < sn M := fun h => c_2 (nI_lt h (by omega))
        refine lv_iload_n hx hb dX6_covers_38 rfl (lv_at hl 1 rfl) ?_
        exact W.iret (v := y3_5) hx hb hr (fun t ht hW => ⟨⟨_, M, rfl, ⟨hv.symm.trans eV, rfl⟩, by rw [ht]; exact hP, va_K.moved hW.alike hK⟩, hS.F ht⟩) hS.2.2 dX6_covers_39
  exact L5 (sn M + 1 - 0) 0 (0 : Int32) _ _ _ (by omega) (by omega)  hv hP hS (lv_sub hl [0, 1, 2, 3] rfl)
