def f_X6_intersect_L130  : Nat → Nat → Mem → Int32 → Mem
  | 0, _, M_130, _ => M_130
  | r + 1, i, M_130, y1_130 => if nI i < (8 : Int32) then if nI i < nI (sn M_130) then if (0 : Int32) < gI M_130 (7) then bnd (f_X6_has M_130  (i) (gL M_130 (4))) fun r_39 => if r_39 = (0 : Int32) then bnd (sB M_130 6 (upd (gB M_130 6) (i) (0 : Int32))) fun M_41 => if gB M_41 6 (i) = (0 : Int32) then f_X6_intersect_L130   r (i + 1) M_41 y1_130 else if y1_130 = (0 : Int32) then bnd (f_X6_to M_41  (i)) fun r_45 => if r_45 < gL M_41 (5) then bnd (f_X6_to M_41  (i)) fun r_47 => bnd (sL M_41 (5) r_47) fun M_48 => f_X6_intersect_L130   r (i + 1) M_48 (0 : Int32) else bnd (sL M_41 (5) (gL M_41 (5))) fun M_49 => f_X6_intersect_L130   r (i + 1) M_49 (0 : Int32) else bnd (f_X6_to M_41  (i)) fun r_50 => bnd (sL M_41 (5) r_50) fun M_51 => f_X6_intersect_L130   r (i + 1) M_51 (0 : Int32) else bnd (sB M_130 6 (upd (gB M_130 6) (i) (1 : Int32))) fun M_52 => if gB M_52 6 (i) = (0 : Int32) then f_X6_intersect_L130   r (i + 1) M_52 y1_130 else if y1_130 = (0 : Int32) then bnd (f_X6_to M_52  (i)) fun r_56 => if r_56 < gL M_52 (5) then bnd (f_X6_to M_52  (i)) fun r_58 => bnd (sL M_52 (5) r_58) fun M_59 => f_X6_intersect_L130   r (i + 1) M_59 (0 : Int32) else bnd (sL M_52 (5) (gL M_52 (5))) fun M_60 => f_X6_intersect_L130   r (i + 1) M_60 (0 : Int32) else bnd (f_X6_to M_52  (i)) fun r_61 => bnd (sL M_52 (5) r_61) fun M_62 => f_X6_intersect_L130   r (i + 1) M_62 (0 : Int32) else bnd (sB M_130 6 (upd (gB M_130 6) (i) (0 : Int32))) fun M_63 => if gB M_63 6 (i) = (0 : Int32) then f_X6_intersect_L130   r (i + 1) M_63 y1_130 else if y1_130 = (0 : Int32) then bnd (f_X6_to M_63  (i)) fun r_67 => if r_67 < gL M_63 (5) then bnd (f_X6_to M_63  (i)) fun r_69 => bnd (sL M_63 (5) r_69) fun M_70 => f_X6_intersect_L130   r (i + 1) M_70 (0 : Int32) else bnd (sL M_63 (5) (gL M_63 (5))) fun M_71 => f_X6_intersect_L130   r (i + 1) M_71 (0 : Int32) else bnd (f_X6_to M_63  (i)) fun r_72 => bnd (sL M_63 (5) r_72) fun M_73 => f_X6_intersect_L130   r (i + 1) M_73 (0 : Int32) else bnd (sB M_130 6 (upd (gB M_130 6) (i) (0 : Int32))) fun M_74 => if gB M_74 6 (i) = (0 : Int32) then f_X6_intersect_L130   r (i + 1) M_74 y1_130 else if y1_130 = (0 : Int32) then bnd (f_X6_to M_74  (i)) fun r_78 => if r_78 < gL M_74 (5) then bnd (f_X6_to M_74  (i)) fun r_80 => bnd (sL M_74 (5) r_80) fun M_81 => f_X6_intersect_L130   r (i + 1) M_81 (0 : Int32) else bnd (sL M_74 (5) (gL M_74 (5))) fun M_82 => f_X6_intersect_L130   r (i + 1) M_82 (0 : Int32) else bnd (f_X6_to M_74  (i)) fun r_83 => bnd (sL M_74 (5) r_83) fun M_84 => f_X6_intersect_L130   r (i + 1) M_84 (0 : Int32) else M_130
def f_X6_intersect_L12  : Nat → Nat → Mem → Mem
  | 0, _, M_12 => M_12
  | r + 1, i, M_12 => if nI i < nI (sn M_12) then if (0 : Int32) < nI (kn M_12 (i)) then bnd (f_X6_from M_12  (i)) fun r_7 => bnd (f_X6_covers M_12  r_7) fun r_8 => if gI M_12 (8) < r_8 then bnd (sI M_12 (7) (gI M_12 (7) + (1 : Int32))) fun M_10 => bnd (f_X6_from M_10  (i)) fun r_12 => bnd (sL M_10 (4) r_12) fun M_13 => bnd (sI M_13 (8) r_8) fun M_15 => f_X6_intersect_L12   r (i + 1) M_15  else if r_8 = gI M_12 (8) then bnd (f_X6_from M_12  (i)) fun r_17 => if r_17 < gL M_12 (4) then bnd (sI M_12 (7) (gI M_12 (7) + (1 : Int32))) fun M_19 => bnd (f_X6_from M_19  (i)) fun r_21 => bnd (sL M_19 (4) r_21) fun M_22 => bnd (sI M_22 (8) r_8) fun M_24 => f_X6_intersect_L12   r (i + 1) M_24  else bnd (sI M_12 (7) (gI M_12 (7) + (1 : Int32))) fun M_25 => bnd (sL M_25 (4) (gL M_25 (4))) fun M_27 => bnd (sI M_27 (8) (gI M_27 (8))) fun M_29 => f_X6_intersect_L12   r (i + 1) M_29  else bnd (sI M_12 (7) (gI M_12 (7) + (1 : Int32))) fun M_30 => bnd (sL M_30 (4) (gL M_30 (4))) fun M_32 => bnd (sI M_32 (8) (gI M_32 (8))) fun M_34 => f_X6_intersect_L12   r (i + 1) M_34  else f_X6_intersect_L12   r (i + 1) M_12  else f_X6_intersect_L130   (8 + 1 - 0) 0 M_12 (1 : Int32)
def f_X6_intersect (M : Mem)  : Mem := bnd (sI M (7) (0 : Int32)) fun M_1 => bnd (sI M_1 (8) (0 : Int32)) fun M_2 => f_X6_intersect_L12   (sn M + 1 - 0) 0 M_2 
theorem hyX6_intersect : yX6_intersect.cls ≠ "java/lang/invoke/MethodHandle" ∧ yX6_intersect.cls ≠ "java/lang/invoke/VarHandle" ∧ (parseMethodDescriptor yX6_intersect.desc).map (fun d => d.parameters.length) = some 0 := by decide +kernel
set_option maxHeartbeats 4000000 in
set_option maxRecDepth 100000 in
theorem c_X6_intersect (l : Launch) (dC : Nat → ClassId) (dI : Nat → Nat → Nat) (cA : Nat → ClassId) (ad : Nat → Nat) (hI : Inj 12 ad) (M : Mem) (hw0 : WFm M)  : Met l yX6_intersect (.code yX6_intersect cX6_intersect 4 none :: AG) ({ frames := 6, cells := 0, slots := 0, locals := 137 } : Room) (va_Pc [.ref (ad (0))] (PM dC dI cA ad M)) (va_Qv (fun u => u = f_X6_intersect M  ∧ WFm u) (PM dC dI cA ad) (adS 12 ad)) 0 0 (adS 12 ad) := by
  refine cMet (by decide) (Nat.le_of_ble_eq_true rfl) ?_
  intro p e s m below meth c ls hx hb hr hml hlocks hown hts hK hP hS hl
  have hA : ∀ q, adS 12 ad q → adS 12 ad q := fun _ h => h
  have hl : lv_has ls 4 [(0, .ref (ad (0)))] := hl
  obtain ⟨V, eV⟩ : ∃ z, z = f_X6_intersect M  := ⟨_, rfl⟩
  have hv := eV
  unfold f_X6_intersect at hv
  have hsn := (WFs hw0).1
  refine lv_aload_n hx hb dX6_intersect_0 rfl (lv_at hl 0 rfl) ?_
  refine lv_iconst (v := 0) hx hb dX6_intersect_1 (by decide) ?_
  refine fp_X6_178 hx hb hts hK hP hI hS hA hown dX6_intersect_2 (fun H locs hP hS => ?_)
  obtain ⟨M_1, eM_1⟩ : ∃ z : Mem, z = sI M (7) (0 : Int32) := ⟨_, rfl⟩
  rw [← eM_1] at hP
  have hv := bnd_name hv eM_1
  have wM_1 : WFm M_1 := by rw [eM_1]; exact WFm_sI hw0 (by decide)
  have ssM_1 : sn M_1 = sn M := by rw [eM_1]; rfl
  refine lv_aload_n hx hb dX6_intersect_5 rfl (lv_at hl 0 rfl) ?_
  refine lv_iconst (v := 0) hx hb dX6_intersect_6 (by decide) ?_
  refine fp_X6_181 hx hb hts hK hP hI hS hA hown dX6_intersect_7 (fun H locs hP hS => ?_)
  obtain ⟨M_2, eM_2⟩ : ∃ z : Mem, z = sI M_1 (8) (0 : Int32) := ⟨_, rfl⟩
  rw [← eM_2] at hP
  have hv := bnd_name hv eM_2
  have wM_2 : WFm M_2 := by rw [eM_2]; exact WFm_sI wM_1 (by decide)
  have ssM_2 : sn M_2 = sn M_1 := by rw [eM_2]; rfl
  refine lv_iconst (v := 0) hx hb dX6_intersect_10 (by decide) ?_
  refine lv_istore_n (lv' := [(1, .int (0 : Int32)), (0, .ref (ad (0)))]) hx hb dX6_intersect_11 rfl hl (by decide) rfl (fun ls hl => ?_)
  have L12 : ∀ (r i : Nat) (M_12 : Mem) (H : Heap) (locs : List Loc) (ls : Array Slot), i + r = sn M + 1 → i ≤ sn M → (sn M_12 = sn M) → (WFm M_12) → V = f_X6_intersect_L12   r i M_12  → va_P (dC, dI) vwCl (wld 12 layM cA ad M_12) H → va_S (adS 12 ad) s.heap H locs → lv_has ls 4 [(1, .int (nI i)), (0, .ref (ad (0)))] → W p l e ({ frames := 6, cells := 0, slots := 0, locals := 137 } : Room) s m ([.ref (ad (0))] : List Value).toArray below meth c H locs 0 0 (MQ below (va_Qv (fun u => u = f_X6_intersect M  ∧ WFm u) (PM dC dI cA ad) (adS 12 ad)) ([.ref (ad (0))] : List Value).toArray s 0 0 (adS 12 ad)) (F0 m 12 ls []) := by
    intro r
    induction r with
    | zero =>
      intro i M_12 H locs ls hir hib
      omega
    | succ r ih =>
      intro i M_12 H locs ls hir hib hx0_12 hx1_12 hv hP hS hl
      rw [f_X6_intersect_L12] at hv
      refine lv_iload_n hx hb dX6_intersect_12 rfl (lv_at hl 0 rfl) ?_
      refine lv_aload_n hx hb dX6_intersect_13 rfl (lv_at hl 1 rfl) ?_
      refine fg_X6_95 hx hb hts hK hP hown dX6_intersect_14 ?_
      have q_3 := (WFs hx1_12).1
      refine w_eqi (y := nI (sn M_12)) (WFs hx1_12).2 ?_
      refine jI_ge (tgt := 126) hx hb dX6_intersect_17 (by decide) (fun c_4 => ?_) (fun c_4 => ?_)
      · have hv := hv.trans (if_pos c_4)
        have hc_4 : i < sn M_12 := nI_lt8 c_4 (by omega) (by omega)
        refine lv_aload_n hx hb dX6_intersect_20 rfl (lv_at hl 1 rfl) ?_
        refine fg_X6_29 hx hb hts hK hP hown dX6_intersect_21 ?_
        refine lv_iload_n hx hb dX6_intersect_24 rfl (lv_at hl 0 rfl) ?_
        refine w_ialdN hx hb hK hP (k := 6) (by decide) lyM6 (i := i) (by omega) (by decide) dX6_intersect_25 ?_
        have q_5 := (WFk hx1_12 (j := i) (by omega)).1
        refine w_eqi (y := nI (kn M_12 (i))) (WFk hx1_12 (j := i) (by omega)).2 ?_
        refine j0_le (tgt := 120) hx hb dX6_intersect_26 (by decide) (fun c_6 => ?_) (fun c_6 => ?_)
        · have hv := hv.trans (if_pos c_6)
          refine lv_aload_n hx hb dX6_intersect_29 rfl (lv_at hl 1 rfl) ?_
          refine lv_aload_n hx hb dX6_intersect_30 rfl (lv_at hl 1 rfl) ?_
          refine lv_iload_n hx hb dX6_intersect_31 rfl (lv_at hl 0 rfl) ?_
          refine kVl hx hb hml hown hts hK hP hS hA (As := [.int (nI i)]) (rest := [.ref (ad (0))]) (c_X6_from l dC dI cA ad hI M_12  (i) (by omega) hx1_12 ) (mkV hts q_1061 q_53 q_1058 q_1060 q_36 hyX6_from rfl rfl ⟨(Nat.le_of_ble_eq_true rfl), (Nat.le_of_ble_eq_true rfl)⟩) (w_recv hK hP (k := 0) (by decide) lyM0 (q := (RX6, TX6, 26)) rfl) rfl hl.1 rfl (Nat.le_of_ble_eq_true rfl) dX6_intersect_32 ⟨(Nat.le_of_ble_eq_true rfl), (Nat.le_of_ble_eq_true rfl)⟩ (fun r u H locs hw hP hS _ _ => ?_)
          obtain ⟨hw, hu⟩ := hw
          rw [hu] at hP
          have hv := bnd_name hv hw
          obtain ⟨r_7, er_7⟩ : ∃ z, z = r := ⟨_, rfl⟩
          rw [← er_7] at hv hw
          refine w_eql er_7.symm ?_
          have gr_7 := hw
          refine kVi hx hb hml hown hts hK hP hS hA (As := [.long r_7]) (rest := []) (c_X6_covers l dC dI cA ad hI M_12  r_7 hx1_12 ) (mkV hts q_1065 q_53 q_1062 q_1064 q_37 hyX6_covers rfl rfl ⟨(Nat.le_of_ble_eq_true rfl), (Nat.le_of_ble_eq_true rfl)⟩) (w_recv hK hP (k := 0) (by decide) lyM0 (q := (RX6, TX6, 26)) rfl) rfl hl.1 rfl (Nat.le_of_ble_eq_true rfl) dX6_intersect_35 ⟨(Nat.le_of_ble_eq_true rfl), (Nat.le_of_ble_eq_true rfl)⟩ (fun r u H locs hw hP hS _ _ => ?_)
          obtain ⟨hw, hu⟩ := hw
          rw [hu] at hP
          have hv := bnd_name hv hw
          obtain ⟨r_8, er_8⟩ : ∃ z, z = r := ⟨_, rfl⟩
          rw [← er_8] at hv hw
          refine w_eqi er_8.symm ?_
          have gr_8 := hw
          refine lv_istore_n (lv' := [(2, .int r_8), (1, .int (nI i)), (0, .ref (ad (0)))]) hx hb dX6_intersect_38 rfl hl (by decide) rfl (fun ls hl => ?_)
          refine lv_iload_n hx hb dX6_intersect_39 rfl (lv_at hl 0 rfl) ?_
          refine lv_aload_n hx hb dX6_intersect_40 rfl (lv_at hl 2 rfl) ?_
          refine fg_X6_181 hx hb hts hK hP hown dX6_intersect_41 ?_
          refine jI_gt (tgt := 68) hx hb dX6_intersect_44 (by decide) (fun c_9 => ?_) (fun c_9 => ?_)
          · have hv := hv.trans (if_pos c_9)
            refine lv_iconst (v := 1) hx hb dX6_intersect_68 (by decide) ?_
            refine lv_goto (tgt := 73) hx hb dX6_intersect_69 (by decide) ?_
            refine lv_istore_n (lv' := [(3, .int (1 : Int32)), (2, .int r_8), (1, .int (nI i)), (0, .ref (ad (0)))]) hx hb dX6_intersect_73 rfl hl (by decide) rfl (fun ls hl => ?_)
            refine lv_aload_n hx hb dX6_intersect_74 rfl (lv_at hl 3 rfl) ?_
            refine lv_dup hx hb dX6_intersect_75 rfl ?_
            refine fg_X6_178 hx hb hts hK hP hown dX6_intersect_76 ?_
            refine lv_iconst (v := 1) hx hb dX6_intersect_79 (by decide) ?_
            refine lv_iadd hx hb dX6_intersect_80 ?_
            refine fp_X6_178 hx hb hts hK hP hI hS hA hown dX6_intersect_81 (fun H locs hP hS => ?_)
            obtain ⟨M_10, eM_10⟩ : ∃ z : Mem, z = sI M_12 (7) (gI M_12 (7) + (1 : Int32)) := ⟨_, rfl⟩
            rw [← eM_10] at hP
            have hv := bnd_name hv eM_10
            have wM_10 : WFm M_10 := by rw [eM_10]; exact WFm_sI hx1_12 (by decide)
            have ssM_10 : sn M_10 = sn M_12 := by rw [eM_10]; rfl
            refine lv_aload_n hx hb dX6_intersect_84 rfl (lv_at hl 3 rfl) ?_
            refine lv_iload_n hx hb dX6_intersect_85 rfl (lv_at hl 0 rfl) ?_
            refine j0_eq (tgt := 97) hx hb dX6_intersect_86 (by decide) (fun c_11 => absurd c_11 (by decide)) (fun _ => ?_)
            refine lv_aload_n hx hb dX6_intersect_89 rfl (lv_at hl 3 rfl) ?_
            refine lv_iload_n hx hb dX6_intersect_90 rfl (lv_at hl 2 rfl) ?_
            refine kVl hx hb hml hown hts hK hP hS hA (As := [.int (nI i)]) (rest := [.ref (ad (0))]) (c_X6_from l dC dI cA ad hI M_10  (i) (by omega) wM_10 ) (mkV hts q_1061 q_53 q_1058 q_1060 q_36 hyX6_from rfl rfl ⟨(Nat.le_of_ble_eq_true rfl), (Nat.le_of_ble_eq_true rfl)⟩) (w_recv hK hP (k := 0) (by decide) lyM0 (q := (RX6, TX6, 26)) rfl) rfl hl.1 rfl (Nat.le_of_ble_eq_true rfl) dX6_intersect_91 ⟨(Nat.le_of_ble_eq_true rfl), (Nat.le_of_ble_eq_true rfl)⟩ (fun r u H locs hw hP hS _ _ => ?_)
            obtain ⟨hw, hu⟩ := hw
            rw [hu] at hP
            have hv := bnd_name hv hw
            obtain ⟨r_12, er_12⟩ : ∃ z, z = r := ⟨_, rfl⟩
            rw [← er_12] at hv hw
            refine w_eql er_12.symm ?_
            have gr_12 := hw
            refine lv_goto (tgt := 101) hx hb dX6_intersect_94 (by decide) ?_
            refine fp_X6_188 hx hb hts hK hP hI hS hA hown dX6_intersect_101 (fun H locs hP hS => ?_)
            obtain ⟨M_13, eM_13⟩ : ∃ z : Mem, z = sL M_10 (4) r_12 := ⟨_, rfl⟩
            rw [← eM_13] at hP
            have hv := bnd_name hv eM_13
            have wM_13 : WFm M_13 := by rw [eM_13]; exact WFm_sL wM_10
            have ssM_13 : sn M_13 = sn M_10 := by rw [eM_13]; rfl
            refine lv_aload_n hx hb dX6_intersect_104 rfl (lv_at hl 3 rfl) ?_
            refine lv_iload_n hx hb dX6_intersect_105 rfl (lv_at hl 0 rfl) ?_
            refine j0_eq (tgt := 113) hx hb dX6_intersect_106 (by decide) (fun c_14 => absurd c_14 (by decide)) (fun _ => ?_)
            refine lv_iload_n hx hb dX6_intersect_109 rfl (lv_at hl 1 rfl) ?_
            refine lv_goto (tgt := 117) hx hb dX6_intersect_110 (by decide) ?_
            refine fp_X6_181 hx hb hts hK hP hI hS hA hown dX6_intersect_117 (fun H locs hP hS => ?_)
            obtain ⟨M_15, eM_15⟩ : ∃ z : Mem, z = sI M_13 (8) r_8 := ⟨_, rfl⟩
            rw [← eM_15] at hP
            have hv := bnd_name hv eM_15
            have wM_15 : WFm M_15 := by rw [eM_15]; exact WFm_sI wM_13 (by decide)
            have ssM_15 : sn M_15 = sn M_13 := by rw [eM_15]; rfl
            refine lv_iinc (v := nI (i + 1)) (lv' := [(1, .int (nI (i + 1))), (3, .int (1 : Int32)), (2, .int r_8), (0, .ref (ad (0)))]) hx hb dX6_intersect_120 hl (k := 2) rfl (show nI (i) + 1 = nI (i + 1) from nI_1 _) (by decide) rfl (fun ls hl => ?_)
            refine lv_goto (tgt := 12) hx hb dX6_intersect_123 (by decide) ?_
            exact ih (i + 1)  M_15 _ _ _ (by omega) (by omega) (by omega) (wM_15) hv hP hS (lv_sub hl [0, 3] rfl)
          · have hv := hv.trans (if_neg c_9)
            refine lv_iload_n hx hb dX6_intersect_47 rfl (lv_at hl 0 rfl) ?_
            refine lv_aload_n hx hb dX6_intersect_48 rfl (lv_at hl 2 rfl) ?_
            refine fg_X6_181 hx hb hts hK hP hown dX6_intersect_49 ?_
            refine jI_ne (tgt := 72) hx hb dX6_intersect_52 (by decide) (fun c_16 => ?_) (fun c_16 => ?_)
            · have hv := hv.trans (if_pos c_16)
              refine lv_aload_n hx hb dX6_intersect_55 rfl (lv_at hl 2 rfl) ?_
              refine lv_iload_n hx hb dX6_intersect_56 rfl (lv_at hl 1 rfl) ?_
              refine kVl hx hb hml hown hts hK hP hS hA (As := [.int (nI i)]) (rest := []) (c_X6_from l dC dI cA ad hI M_12  (i) (by omega) hx1_12 ) (mkV hts q_1061 q_53 q_1058 q_1060 q_36 hyX6_from rfl rfl ⟨(Nat.le_of_ble_eq_true rfl), (Nat.le_of_ble_eq_true rfl)⟩) (w_recv hK hP (k := 0) (by decide) lyM0 (q := (RX6, TX6, 26)) rfl) rfl hl.1 rfl (Nat.le_of_ble_eq_true rfl) dX6_intersect_57 ⟨(Nat.le_of_ble_eq_true rfl), (Nat.le_of_ble_eq_true rfl)⟩ (fun r u H locs hw hP hS _ _ => ?_)
              obtain ⟨hw, hu⟩ := hw
              rw [hu] at hP
              have hv := bnd_name hv hw
              obtain ⟨r_17, er_17⟩ : ∃ z, z = r := ⟨_, rfl⟩
              rw [← er_17] at hv hw
              refine w_eql er_17.symm ?_
              have gr_17 := hw
              refine lv_aload_n hx hb dX6_intersect_60 rfl (lv_at hl 2 rfl) ?_
              refine fg_X6_188 hx hb hts hK hP hown dX6_intersect_61 ?_
              refine jL_ge (tgt := 72) hx hb dX6_intersect_64 dX6_intersect_65 (by decide) (fun c_18 => ?_) (fun c_18 => ?_)
              · have hv := hv.trans (if_pos c_18)
                refine lv_iconst (v := 1) hx hb dX6_intersect_68 (by decide) ?_
                refine lv_goto (tgt := 73) hx hb dX6_intersect_69 (by decide) ?_
                refine lv_istore_n (lv' := [(3, .int (1 : Int32)), (2, .int r_8), (1, .int (nI i)), (0, .ref (ad (0)))]) hx hb dX6_intersect_73 rfl hl (by decide) rfl (fun ls hl => ?_)
                refine lv_aload_n hx hb dX6_intersect_74 rfl (lv_at hl 3 rfl) ?_
                refine lv_dup hx hb dX6_intersect_75 rfl ?_
                refine fg_X6_178 hx hb hts hK hP hown dX6_intersect_76 ?_
                refine lv_iconst (v := 1) hx hb dX6_intersect_79 (by decide) ?_
                refine lv_iadd hx hb dX6_intersect_80 ?_
                refine fp_X6_178 hx hb hts hK hP hI hS hA hown dX6_intersect_81 (fun H locs hP hS => ?_)
                obtain ⟨M_19, eM_19⟩ : ∃ z : Mem, z = sI M_12 (7) (gI M_12 (7) + (1 : Int32)) := ⟨_, rfl⟩
                rw [← eM_19] at hP
                have hv := bnd_name hv eM_19
                have wM_19 : WFm M_19 := by rw [eM_19]; exact WFm_sI hx1_12 (by decide)
                have ssM_19 : sn M_19 = sn M_12 := by rw [eM_19]; rfl
                refine lv_aload_n hx hb dX6_intersect_84 rfl (lv_at hl 3 rfl) ?_
                refine lv_iload_n hx hb dX6_intersect_85 rfl (lv_at hl 0 rfl) ?_
                refine j0_eq (tgt := 97) hx hb dX6_intersect_86 (by decide) (fun c_20 => absurd c_20 (by decide)) (fun _ => ?_)
                refine lv_aload_n hx hb dX6_intersect_89 rfl (lv_at hl 3 rfl) ?_
                refine lv_iload_n hx hb dX6_intersect_90 rfl (lv_at hl 2 rfl) ?_
                refine kVl hx hb hml hown hts hK hP hS hA (As := [.int (nI i)]) (rest := [.ref (ad (0))]) (c_X6_from l dC dI cA ad hI M_19  (i) (by omega) wM_19 ) (mkV hts q_1061 q_53 q_1058 q_1060 q_36 hyX6_from rfl rfl ⟨(Nat.le_of_ble_eq_true rfl), (Nat.le_of_ble_eq_true rfl)⟩) (w_recv hK hP (k := 0) (by decide) lyM0 (q := (RX6, TX6, 26)) rfl) rfl hl.1 rfl (Nat.le_of_ble_eq_true rfl) dX6_intersect_91 ⟨(Nat.le_of_ble_eq_true rfl), (Nat.le_of_ble_eq_true rfl)⟩ (fun r u H locs hw hP hS _ _ => ?_)
                obtain ⟨hw, hu⟩ := hw
                rw [hu] at hP
                have hv := bnd_name hv hw
                obtain ⟨r_21, er_21⟩ : ∃ z, z = r := ⟨_, rfl⟩
                rw [← er_21] at hv hw
                refine w_eql er_21.symm ?_
                have gr_21 := hw
                refine lv_goto (tgt := 101) hx hb dX6_intersect_94 (by decide) ?_
                refine fp_X6_188 hx hb hts hK hP hI hS hA hown dX6_intersect_101 (fun H locs hP hS => ?_)
                obtain ⟨M_22, eM_22⟩ : ∃ z : Mem, z = sL M_19 (4) r_21 := ⟨_, rfl⟩
                rw [← eM_22] at hP
                have hv := bnd_name hv eM_22
                have wM_22 : WFm M_22 := by rw [eM_22]; exact WFm_sL wM_19
                have ssM_22 : sn M_22 = sn M_19 := by rw [eM_22]; rfl
                refine lv_aload_n hx hb dX6_intersect_104 rfl (lv_at hl 3 rfl) ?_
                refine lv_iload_n hx hb dX6_intersect_105 rfl (lv_at hl 0 rfl) ?_
                refine j0_eq (tgt := 113) hx hb dX6_intersect_106 (by decide) (fun c_23 => absurd c_23 (by decide)) (fun _ => ?_)
                refine lv_iload_n hx hb dX6_intersect_109 rfl (lv_at hl 1 rfl) ?_
                refine lv_goto (tgt := 117) hx hb dX6_intersect_110 (by decide) ?_
                refine fp_X6_181 hx hb hts hK hP hI hS hA hown dX6_intersect_117 (fun H locs hP hS => ?_)
                obtain ⟨M_24, eM_24⟩ : ∃ z : Mem, z = sI M_22 (8) r_8 := ⟨_, rfl⟩
                rw [← eM_24] at hP
                have hv := bnd_name hv eM_24
                have wM_24 : WFm M_24 := by rw [eM_24]; exact WFm_sI wM_22 (by decide)
                have ssM_24 : sn M_24 = sn M_22 := by rw [eM_24]; rfl
                refine lv_iinc (v := nI (i + 1)) (lv' := [(1, .int (nI (i + 1))), (3, .int (1 : Int32)), (2, .int r_8), (0, .ref (ad (0)))]) hx hb dX6_intersect_120 hl (k := 2) rfl (show nI (i) + 1 = nI (i + 1) from nI_1 _) (by decide) rfl (fun ls hl => ?_)
                refine lv_goto (tgt := 12) hx hb dX6_intersect_123 (by decide) ?_
                exact ih (i + 1)  M_24 _ _ _ (by omega) (by omega) (by omega) (wM_24) hv hP hS (lv_sub hl [0, 3] rfl)
              · have hv := hv.trans (if_neg c_18)
                refine lv_iconst (v := 0) hx hb dX6_intersect_72 (by decide) ?_
                refine lv_istore_n (lv' := [(3, .int (0 : Int32)), (2, .int r_8), (1, .int (nI i)), (0, .ref (ad (0)))]) hx hb dX6_intersect_73 rfl hl (by decide) rfl (fun ls hl => ?_)
                refine lv_aload_n hx hb dX6_intersect_74 rfl (lv_at hl 3 rfl) ?_
                refine lv_dup hx hb dX6_intersect_75 rfl ?_
                refine fg_X6_178 hx hb hts hK hP hown dX6_intersect_76 ?_
                refine lv_iconst (v := 1) hx hb dX6_intersect_79 (by decide) ?_
                refine lv_iadd hx hb dX6_intersect_80 ?_
                refine fp_X6_178 hx hb hts hK hP hI hS hA hown dX6_intersect_81 (fun H locs hP hS => ?_)
                obtain ⟨M_25, eM_25⟩ : ∃ z : Mem, z = sI M_12 (7) (gI M_12 (7) + (1 : Int32)) := ⟨_, rfl⟩
                rw [← eM_25] at hP
                have hv := bnd_name hv eM_25
                have wM_25 : WFm M_25 := by rw [eM_25]; exact WFm_sI hx1_12 (by decide)
                have ssM_25 : sn M_25 = sn M_12 := by rw [eM_25]; rfl
                refine lv_aload_n hx hb dX6_intersect_84 rfl (lv_at hl 3 rfl) ?_
                refine lv_iload_n hx hb dX6_intersect_85 rfl (lv_at hl 0 rfl) ?_
                refine j0_eq (tgt := 97) hx hb dX6_intersect_86 (by decide) (fun _ => ?_) (fun c_26 => absurd (by decide) c_26)
                refine lv_aload_n hx hb dX6_intersect_97 rfl (lv_at hl 3 rfl) ?_
                refine fg_X6_188 hx hb hts hK hP hown dX6_intersect_98 ?_
                refine fp_X6_188 hx hb hts hK hP hI hS hA hown dX6_intersect_101 (fun H locs hP hS => ?_)
                obtain ⟨M_27, eM_27⟩ : ∃ z : Mem, z = sL M_25 (4) (gL M_25 (4)) := ⟨_, rfl⟩
                rw [← eM_27] at hP
                have hv := bnd_name hv eM_27
                have wM_27 : WFm M_27 := by rw [eM_27]; exact WFm_sL wM_25
                have ssM_27 : sn M_27 = sn M_25 := by rw [eM_27]; rfl
                refine lv_aload_n hx hb dX6_intersect_104 rfl (lv_at hl 3 rfl) ?_
                refine lv_iload_n hx hb dX6_intersect_105 rfl (lv_at hl 0 rfl) ?_
                refine j0_eq (tgt := 113) hx hb dX6_intersect_106 (by decide) (fun _ => ?_) (fun c_28 => absurd (by decide) c_28)
                refine lv_aload_n hx hb dX6_intersect_113 rfl (lv_at hl 3 rfl) ?_
                refine fg_X6_181 hx hb hts hK hP hown dX6_intersect_114 ?_
                refine fp_X6_181 hx hb hts hK hP hI hS hA hown dX6_intersect_117 (fun H locs hP hS => ?_)
                obtain ⟨M_29, eM_29⟩ : ∃ z : Mem, z = sI M_27 (8) (gI M_27 (8)) := ⟨_, rfl⟩
                rw [← eM_29] at hP
                have hv := bnd_name hv eM_29
                have wM_29 : WFm M_29 := by rw [eM_29]; exact WFm_sI wM_27 (by decide)
                have ssM_29 : sn M_29 = sn M_27 := by rw [eM_29]; rfl
                refine lv_iinc (v := nI (i + 1)) (lv' := [(1, .int (nI (i + 1))), (3, .int (0 : Int32)), (2, .int r_8), (0, .ref (ad (0)))]) hx hb dX6_intersect_120 hl (k := 2) rfl (show nI (i) + 1 = nI (i + 1) from nI_1 _) (by decide) rfl (fun ls hl => ?_)
                refine lv_goto (tgt := 12) hx hb dX6_intersect_123 (by decide) ?_
                exact ih (i + 1)  M_29 _ _ _ (by omega) (by omega) (by omega) (wM_29) hv hP hS (lv_sub hl [0, 3] rfl)
            · have hv := hv.trans (if_neg c_16)
              refine lv_iconst (v := 0) hx hb dX6_intersect_72 (by decide) ?_
              refine lv_istore_n (lv' := [(3, .int (0 : Int32)), (2, .int r_8), (1, .int (nI i)), (0, .ref (ad (0)))]) hx hb dX6_intersect_73 rfl hl (by decide) rfl (fun ls hl => ?_)
              refine lv_aload_n hx hb dX6_intersect_74 rfl (lv_at hl 3 rfl) ?_
              refine lv_dup hx hb dX6_intersect_75 rfl ?_
              refine fg_X6_178 hx hb hts hK hP hown dX6_intersect_76 ?_
              refine lv_iconst (v := 1) hx hb dX6_intersect_79 (by decide) ?_
              refine lv_iadd hx hb dX6_intersect_80 ?_
              refine fp_X6_178 hx hb hts hK hP hI hS hA hown dX6_intersect_81 (fun H locs hP hS => ?_)
              obtain ⟨M_30, eM_30⟩ : ∃ z : Mem, z = sI M_12 (7) (gI M_12 (7) + (1 : Int32)) := ⟨_, rfl⟩
              rw [← eM_30] at hP
              have hv := bnd_name hv eM_30
              have wM_30 : WFm M_30 := by rw [eM_30]; exact WFm_sI hx1_12 (by decide)
              have ssM_30 : sn M_30 = sn M_12 := by rw [eM_30]; rfl
              refine lv_aload_n hx hb dX6_intersect_84 rfl (lv_at hl 3 rfl) ?_
              refine lv_iload_n hx hb dX6_intersect_85 rfl (lv_at hl 0 rfl) ?_
              refine j0_eq (tgt := 97) hx hb dX6_intersect_86 (by decide) (fun _ => ?_) (fun c_31 => absurd (by decide) c_31)
              refine lv_aload_n hx hb dX6_intersect_97 rfl (lv_at hl 3 rfl) ?_
              refine fg_X6_188 hx hb hts hK hP hown dX6_intersect_98 ?_
              refine fp_X6_188 hx hb hts hK hP hI hS hA hown dX6_intersect_101 (fun H locs hP hS => ?_)
              obtain ⟨M_32, eM_32⟩ : ∃ z : Mem, z = sL M_30 (4) (gL M_30 (4)) := ⟨_, rfl⟩
              rw [← eM_32] at hP
              have hv := bnd_name hv eM_32
              have wM_32 : WFm M_32 := by rw [eM_32]; exact WFm_sL wM_30
              have ssM_32 : sn M_32 = sn M_30 := by rw [eM_32]; rfl
              refine lv_aload_n hx hb dX6_intersect_104 rfl (lv_at hl 3 rfl) ?_
              refine lv_iload_n hx hb dX6_intersect_105 rfl (lv_at hl 0 rfl) ?_
              refine j0_eq (tgt := 113) hx hb dX6_intersect_106 (by decide) (fun _ => ?_) (fun c_33 => absurd (by decide) c_33)
              refine lv_aload_n hx hb dX6_intersect_113 rfl (lv_at hl 3 rfl) ?_
              refine fg_X6_181 hx hb hts hK hP hown dX6_intersect_114 ?_
              refine fp_X6_181 hx hb hts hK hP hI hS hA hown dX6_intersect_117 (fun H locs hP hS => ?_)
              obtain ⟨M_34, eM_34⟩ : ∃ z : Mem, z = sI M_32 (8) (gI M_32 (8)) := ⟨_, rfl⟩
              rw [← eM_34] at hP
              have hv := bnd_name hv eM_34
              have wM_34 : WFm M_34 := by rw [eM_34]; exact WFm_sI wM_32 (by decide)
              have ssM_34 : sn M_34 = sn M_32 := by rw [eM_34]; rfl
              refine lv_iinc (v := nI (i + 1)) (lv' := [(1, .int (nI (i + 1))), (3, .int (0 : Int32)), (2, .int r_8), (0, .ref (ad (0)))]) hx hb dX6_intersect_120 hl (k := 2) rfl (show nI (i) + 1 = nI (i + 1) from nI_1 _) (by decide) rfl (fun ls hl => ?_)
              refine lv_goto (tgt := 12) hx hb dX6_intersect_123 (by decide) ?_
              exact ih (i + 1)  M_34 _ _ _ (by omega) (by omega) (by omega) (wM_34) hv hP hS (lv_sub hl [0, 3] rfl)
        · have hv := hv.trans (if_neg c_6)
          have hc_6 : ¬ 0 < kn M_12 (i) := fun h => c_6 (nI_lt h (by omega))
          refine lv_iinc (v := nI (i + 1)) (lv' := [(1, .int (nI (i + 1))), (0, .ref (ad (0)))]) hx hb dX6_intersect_120 hl (k := 0) rfl (show nI (i) + 1 = nI (i + 1) from nI_1 _) (by decide) rfl (fun ls hl => ?_)
          refine lv_goto (tgt := 12) hx hb dX6_intersect_123 (by decide) ?_
          exact ih (i + 1)  M_12 _ _ _ (by omega) (by omega) (by omega) (hx1_12) hv hP hS (lv_sub hl [0, 1] rfl)
      · have hv := hv.trans (if_neg c_4)
        have hc_4 : ¬ i < sn M_12 := fun h => c_4 (nI_lt h (by omega))
        refine lv_iconst (v := 1) hx hb dX6_intersect_126 (by decide) ?_
        refine lv_istore_n (lv' := [(1, .int (1 : Int32)), (0, .ref (ad (0)))]) hx hb dX6_intersect_127 rfl hl (by decide) rfl (fun ls hl => ?_)
        refine lv_iconst (v := 0) hx hb dX6_intersect_128 (by decide) ?_
        refine lv_istore_n (lv' := [(2, .int (0 : Int32)), (1, .int (1 : Int32)), (0, .ref (ad (0)))]) hx hb dX6_intersect_129 rfl hl (by decide) rfl (fun ls hl => ?_)
        have L130 : ∀ (r i : Nat) (y1_130 : Int32) (M_130 : Mem) (H : Heap) (locs : List Loc) (ls : Array Slot), i + r = 8 + 1 → i ≤ 8 → (sn M_130 = sn M) → (WFm M_130) → V = f_X6_intersect_L130   r i M_130 y1_130 → va_P (dC, dI) vwCl (wld 12 layM cA ad M_130) H → va_S (adS 12 ad) s.heap H locs → lv_has ls 4 [(2, .int (nI i)), (1, .int y1_130), (0, .ref (ad (0)))] → W p l e ({ frames := 6, cells := 0, slots := 0, locals := 137 } : Room) s m ([.ref (ad (0))] : List Value).toArray below meth c H locs 0 0 (MQ below (va_Qv (fun u => u = f_X6_intersect M  ∧ WFm u) (PM dC dI cA ad) (adS 12 ad)) ([.ref (ad (0))] : List Value).toArray s 0 0 (adS 12 ad)) (F0 m 130 ls []) := by
          intro r
          induction r with
          | zero =>
            intro i y1_130 M_130 H locs ls hir hib
            omega
          | succ r ih =>
            intro i y1_130 M_130 H locs ls hir hib hx0_130 hx1_130 hv hP hS hl
            rw [f_X6_intersect_L130] at hv
            refine lv_iload_n hx hb dX6_intersect_130 rfl (lv_at hl 0 rfl) ?_
            refine lv_bipush (v := 8) hx hb dX6_intersect_131 (by decide) ?_
            refine jI_ge (tgt := 224) hx hb dX6_intersect_133 (by decide) (fun c_35 => ?_) (fun c_35 => ?_)
            · have hv := hv.trans (if_pos c_35)
              have hc_35 : i < 8 := nI_lt8 (n := 8) c_35 (by omega) (by decide)
              refine lv_aload_n hx hb dX6_intersect_136 rfl (lv_at hl 2 rfl) ?_
              refine fg_X6_42 hx hb hts hK hP hown dX6_intersect_137 ?_
              refine lv_iload_n hx hb dX6_intersect_140 rfl (lv_at hl 0 rfl) ?_
              refine lv_iload_n hx hb dX6_intersect_141 rfl (lv_at hl 0 rfl) ?_
              refine lv_aload_n hx hb dX6_intersect_142 rfl (lv_at hl 2 rfl) ?_
              refine fg_X6_95 hx hb hts hK hP hown dX6_intersect_143 ?_
              have q_36 := (WFs hx1_130).1
              refine w_eqi (y := nI (sn M_130)) (WFs hx1_130).2 ?_
              refine jI_ge (tgt := 172) hx hb dX6_intersect_146 (by decide) (fun c_37 => ?_) (fun c_37 => ?_)
              · have hv := hv.trans (if_pos c_37)
                have hc_37 : i < sn M_130 := nI_lt8 c_37 (by omega) (by omega)
                refine lv_aload_n hx hb dX6_intersect_149 rfl (lv_at hl 2 rfl) ?_
                refine fg_X6_178 hx hb hts hK hP hown dX6_intersect_150 ?_
                refine j0_le (tgt := 172) hx hb dX6_intersect_153 (by decide) (fun c_38 => ?_) (fun c_38 => ?_)
                · have hv := hv.trans (if_pos c_38)
                  refine lv_aload_n hx hb dX6_intersect_156 rfl (lv_at hl 2 rfl) ?_
                  refine lv_iload_n hx hb dX6_intersect_157 rfl (lv_at hl 0 rfl) ?_
                  refine lv_aload_n hx hb dX6_intersect_158 rfl (lv_at hl 2 rfl) ?_
                  refine fg_X6_188 hx hb hts hK hP hown dX6_intersect_159 ?_
                  refine kVi hx hb hml hown hts hK hP hS hA (As := [.int (nI i), .long (gL M_130 (4))]) (rest := [.int (nI i), .ref (ad (10))]) (c_X6_has l dC dI cA ad hI M_130  (i) (by omega) (gL M_130 (4)) hx1_130 ) (mkV hts q_1069 q_53 q_1066 q_1068 q_38 hyX6_has rfl rfl ⟨(Nat.le_of_ble_eq_true rfl), (Nat.le_of_ble_eq_true rfl)⟩) (w_recv hK hP (k := 0) (by decide) lyM0 (q := (RX6, TX6, 26)) rfl) rfl hl.1 rfl (Nat.le_of_ble_eq_true rfl) dX6_intersect_162 ⟨(Nat.le_of_ble_eq_true rfl), (Nat.le_of_ble_eq_true rfl)⟩ (fun r u H locs hw hP hS _ _ => ?_)
                  obtain ⟨hw, hu⟩ := hw
                  rw [hu] at hP
                  have hv := bnd_name hv hw
                  obtain ⟨r_39, er_39⟩ : ∃ z, z = r := ⟨_, rfl⟩
                  rw [← er_39] at hv hw
                  refine w_eqi er_39.symm ?_
                  have gr_39 := hw
                  have br_39 : r_39 = 0 ∨ r_39 = 1 := by rw [hw]; exact f_X6_has_b M_130  (i) (gL M_130 (4))
                  refine j0_eq (tgt := 172) hx hb dX6_intersect_165 (by decide) (fun c_40 => ?_) (fun c_40 => ?_)
                  · have hv := hv.trans (if_pos c_40)
                    refine lv_iconst (v := 0) hx hb dX6_intersect_172 (by decide) ?_
                    refine w_zastN hx hb hK hP hI hS hA (k := 10) (by decide) lyM10 uAM10 rfl (i := i) (by omega) (by decide) dX6_intersect_173 (fun H locs hP hS => ?_)
                    obtain ⟨M_41, eM_41⟩ : ∃ z : Mem, z = sB M_130 6 (upd (gB M_130 6) (i) (0 : Int32)) := ⟨_, rfl⟩
                    rw [← eM_41] at hP
                    have hv := bnd_name hv eM_41
                    have wM_41 : WFm M_41 := by rw [eM_41]; exact WFm_6 hx1_130 (by decide)
                    have ssM_41 : sn M_41 = sn M_130 := by rw [eM_41]; rfl
                    refine lv_aload_n hx hb dX6_intersect_174 rfl (lv_at hl 2 rfl) ?_
                    refine fg_X6_42 hx hb hts hK hP hown dX6_intersect_175 ?_
                    refine lv_iload_n hx hb dX6_intersect_178 rfl (lv_at hl 0 rfl) ?_
                    refine w_zaldN hx hb hK hP (k := 10) (by decide) lyM10 (i := i) (by omega) (by decide) dX6_intersect_179 ?_
                    have bo_42 := wM_41.2.2.1 (i) (by omega)
                    refine j0_eq (tgt := 218) hx hb dX6_intersect_180 (by decide) (fun c_43 => ?_) (fun c_43 => ?_)
                    · have hv := hv.trans (if_pos c_43)
                      refine lv_iinc (v := nI (i + 1)) (lv' := [(2, .int (nI (i + 1))), (1, .int y1_130), (0, .ref (ad (0)))]) hx hb dX6_intersect_218 hl (k := 0) rfl (show nI (i) + 1 = nI (i + 1) from nI_1 _) (by decide) rfl (fun ls hl => ?_)
                      refine lv_goto (tgt := 130) hx hb dX6_intersect_221 (by decide) ?_
                      exact ih (i + 1) y1_130 M_41 _ _ _ (by omega) (by omega) (by omega) (wM_41) hv hP hS (lv_sub hl [0, 1, 2] rfl)
                    · have hv := hv.trans (if_neg c_43)
                      refine lv_aload_n hx hb dX6_intersect_183 rfl (lv_at hl 2 rfl) ?_
                      refine lv_iload_n hx hb dX6_intersect_184 rfl (lv_at hl 1 rfl) ?_
                      refine j0_ne (tgt := 201) hx hb dX6_intersect_185 (by decide) (fun c_44 => ?_) (fun c_44 => ?_)
                      · have hv := hv.trans (if_pos c_44)
                        refine lv_aload_n hx hb dX6_intersect_188 rfl (lv_at hl 2 rfl) ?_
                        refine lv_iload_n hx hb dX6_intersect_189 rfl (lv_at hl 0 rfl) ?_
                        refine kVl hx hb hml hown hts hK hP hS hA (As := [.int (nI i)]) (rest := [.ref (ad (0))]) (c_X6_to l dC dI cA ad hI M_41  (i) (by omega) wM_41 ) (mkV hts q_1073 q_53 q_1070 q_1072 q_39 hyX6_to rfl rfl ⟨(Nat.le_of_ble_eq_true rfl), (Nat.le_of_ble_eq_true rfl)⟩) (w_recv hK hP (k := 0) (by decide) lyM0 (q := (RX6, TX6, 26)) rfl) rfl hl.1 rfl (Nat.le_of_ble_eq_true rfl) dX6_intersect_190 ⟨(Nat.le_of_ble_eq_true rfl), (Nat.le_of_ble_eq_true rfl)⟩ (fun r u H locs hw hP hS _ _ => ?_)
                        obtain ⟨hw, hu⟩ := hw
                        rw [hu] at hP
                        have hv := bnd_name hv hw
                        obtain ⟨r_45, er_45⟩ : ∃ z, z = r := ⟨_, rfl⟩
                        rw [← er_45] at hv hw
                        refine w_eql er_45.symm ?_
                        have gr_45 := hw
                        refine lv_aload_n hx hb dX6_intersect_193 rfl (lv_at hl 2 rfl) ?_
                        refine fg_X6_191 hx hb hts hK hP hown dX6_intersect_194 ?_
                        refine jL_ge (tgt := 209) hx hb dX6_intersect_197 dX6_intersect_198 (by decide) (fun c_46 => ?_) (fun c_46 => ?_)
                        · have hv := hv.trans (if_pos c_46)
                          refine lv_aload_n hx hb dX6_intersect_201 rfl (lv_at hl 2 rfl) ?_
                          refine lv_iload_n hx hb dX6_intersect_202 rfl (lv_at hl 0 rfl) ?_
                          refine kVl hx hb hml hown hts hK hP hS hA (As := [.int (nI i)]) (rest := [.ref (ad (0))]) (c_X6_to l dC dI cA ad hI M_41  (i) (by omega) wM_41 ) (mkV hts q_1073 q_53 q_1070 q_1072 q_39 hyX6_to rfl rfl ⟨(Nat.le_of_ble_eq_true rfl), (Nat.le_of_ble_eq_true rfl)⟩) (w_recv hK hP (k := 0) (by decide) lyM0 (q := (RX6, TX6, 26)) rfl) rfl hl.1 rfl (Nat.le_of_ble_eq_true rfl) dX6_intersect_203 ⟨(Nat.le_of_ble_eq_true rfl), (Nat.le_of_ble_eq_true rfl)⟩ (fun r u H locs hw hP hS _ _ => ?_)
                          obtain ⟨hw, hu⟩ := hw
                          rw [hu] at hP
                          have hv := bnd_name hv hw
                          obtain ⟨r_47, er_47⟩ : ∃ z, z = r := ⟨_, rfl⟩
                          rw [← er_47] at hv hw
                          refine w_eql er_47.symm ?_
                          have gr_47 := hw
                          refine lv_goto (tgt := 213) hx hb dX6_intersect_206 (by decide) ?_
                          refine fp_X6_191 hx hb hts hK hP hI hS hA hown dX6_intersect_213 (fun H locs hP hS => ?_)
                          obtain ⟨M_48, eM_48⟩ : ∃ z : Mem, z = sL M_41 (5) r_47 := ⟨_, rfl⟩
                          rw [← eM_48] at hP
                          have hv := bnd_name hv eM_48
                          have wM_48 : WFm M_48 := by rw [eM_48]; exact WFm_sL wM_41
                          have ssM_48 : sn M_48 = sn M_41 := by rw [eM_48]; rfl
                          refine lv_iconst (v := 0) hx hb dX6_intersect_216 (by decide) ?_
                          refine lv_istore_n (lv' := [(1, .int (0 : Int32)), (2, .int (nI i)), (0, .ref (ad (0)))]) hx hb dX6_intersect_217 rfl hl (by decide) rfl (fun ls hl => ?_)
                          refine lv_iinc (v := nI (i + 1)) (lv' := [(2, .int (nI (i + 1))), (1, .int (0 : Int32)), (0, .ref (ad (0)))]) hx hb dX6_intersect_218 hl (k := 1) rfl (show nI (i) + 1 = nI (i + 1) from nI_1 _) (by decide) rfl (fun ls hl => ?_)
                          refine lv_goto (tgt := 130) hx hb dX6_intersect_221 (by decide) ?_
                          exact ih (i + 1) (0 : Int32) M_48 _ _ _ (by omega) (by omega) (by omega) (wM_48) hv hP hS (lv_sub hl [0, 1, 2] rfl)
                        · have hv := hv.trans (if_neg c_46)
                          refine lv_aload_n hx hb dX6_intersect_209 rfl (lv_at hl 2 rfl) ?_
                          refine fg_X6_191 hx hb hts hK hP hown dX6_intersect_210 ?_
                          refine fp_X6_191 hx hb hts hK hP hI hS hA hown dX6_intersect_213 (fun H locs hP hS => ?_)
                          obtain ⟨M_49, eM_49⟩ : ∃ z : Mem, z = sL M_41 (5) (gL M_41 (5)) := ⟨_, rfl⟩
                          rw [← eM_49] at hP
                          have hv := bnd_name hv eM_49
                          have wM_49 : WFm M_49 := by rw [eM_49]; exact WFm_sL wM_41
                          have ssM_49 : sn M_49 = sn M_41 := by rw [eM_49]; rfl
                          refine lv_iconst (v := 0) hx hb dX6_intersect_216 (by decide) ?_
                          refine lv_istore_n (lv' := [(1, .int (0 : Int32)), (2, .int (nI i)), (0, .ref (ad (0)))]) hx hb dX6_intersect_217 rfl hl (by decide) rfl (fun ls hl => ?_)
                          refine lv_iinc (v := nI (i + 1)) (lv' := [(2, .int (nI (i + 1))), (1, .int (0 : Int32)), (0, .ref (ad (0)))]) hx hb dX6_intersect_218 hl (k := 1) rfl (show nI (i) + 1 = nI (i + 1) from nI_1 _) (by decide) rfl (fun ls hl => ?_)
                          refine lv_goto (tgt := 130) hx hb dX6_intersect_221 (by decide) ?_
                          exact ih (i + 1) (0 : Int32) M_49 _ _ _ (by omega) (by omega) (by omega) (wM_49) hv hP hS (lv_sub hl [0, 1, 2] rfl)
                      · have hv := hv.trans (if_neg c_44)
                        refine lv_aload_n hx hb dX6_intersect_201 rfl (lv_at hl 2 rfl) ?_
                        refine lv_iload_n hx hb dX6_intersect_202 rfl (lv_at hl 0 rfl) ?_
                        refine kVl hx hb hml hown hts hK hP hS hA (As := [.int (nI i)]) (rest := [.ref (ad (0))]) (c_X6_to l dC dI cA ad hI M_41  (i) (by omega) wM_41 ) (mkV hts q_1073 q_53 q_1070 q_1072 q_39 hyX6_to rfl rfl ⟨(Nat.le_of_ble_eq_true rfl), (Nat.le_of_ble_eq_true rfl)⟩) (w_recv hK hP (k := 0) (by decide) lyM0 (q := (RX6, TX6, 26)) rfl) rfl hl.1 rfl (Nat.le_of_ble_eq_true rfl) dX6_intersect_203 ⟨(Nat.le_of_ble_eq_true rfl), (Nat.le_of_ble_eq_true rfl)⟩ (fun r u H locs hw hP hS _ _ => ?_)
                        obtain ⟨hw, hu⟩ := hw
                        rw [hu] at hP
                        have hv := bnd_name hv hw
                        obtain ⟨r_50, er_50⟩ : ∃ z, z = r := ⟨_, rfl⟩
                        rw [← er_50] at hv hw
                        refine w_eql er_50.symm ?_
                        have gr_50 := hw
                        refine lv_goto (tgt := 213) hx hb dX6_intersect_206 (by decide) ?_
                        refine fp_X6_191 hx hb hts hK hP hI hS hA hown dX6_intersect_213 (fun H locs hP hS => ?_)
                        obtain ⟨M_51, eM_51⟩ : ∃ z : Mem, z = sL M_41 (5) r_50 := ⟨_, rfl⟩
                        rw [← eM_51] at hP
                        have hv := bnd_name hv eM_51
                        have wM_51 : WFm M_51 := by rw [eM_51]; exact WFm_sL wM_41
                        have ssM_51 : sn M_51 = sn M_41 := by rw [eM_51]; rfl
                        refine lv_iconst (v := 0) hx hb dX6_intersect_216 (by decide) ?_
                        refine lv_istore_n (lv' := [(1, .int (0 : Int32)), (2, .int (nI i)), (0, .ref (ad (0)))]) hx hb dX6_intersect_217 rfl hl (by decide) rfl (fun ls hl => ?_)
                        refine lv_iinc (v := nI (i + 1)) (lv' := [(2, .int (nI (i + 1))), (1, .int (0 : Int32)), (0, .ref (ad (0)))]) hx hb dX6_intersect_218 hl (k := 1) rfl (show nI (i) + 1 = nI (i + 1) from nI_1 _) (by decide) rfl (fun ls hl => ?_)
                        refine lv_goto (tgt := 130) hx hb dX6_intersect_221 (by decide) ?_
                        exact ih (i + 1) (0 : Int32) M_51 _ _ _ (by omega) (by omega) (by omega) (wM_51) hv hP hS (lv_sub hl [0, 1, 2] rfl)
                  · have hv := hv.trans (if_neg c_40)
                    refine lv_iconst (v := 1) hx hb dX6_intersect_168 (by decide) ?_
                    refine lv_goto (tgt := 173) hx hb dX6_intersect_169 (by decide) ?_
                    refine w_zastN hx hb hK hP hI hS hA (k := 10) (by decide) lyM10 uAM10 rfl (i := i) (by omega) (by decide) dX6_intersect_173 (fun H locs hP hS => ?_)
                    obtain ⟨M_52, eM_52⟩ : ∃ z : Mem, z = sB M_130 6 (upd (gB M_130 6) (i) (1 : Int32)) := ⟨_, rfl⟩
                    rw [← eM_52] at hP
                    have hv := bnd_name hv eM_52
                    have wM_52 : WFm M_52 := by rw [eM_52]; exact WFm_6 hx1_130 (by decide)
                    have ssM_52 : sn M_52 = sn M_130 := by rw [eM_52]; rfl
                    refine lv_aload_n hx hb dX6_intersect_174 rfl (lv_at hl 2 rfl) ?_
                    refine fg_X6_42 hx hb hts hK hP hown dX6_intersect_175 ?_
                    refine lv_iload_n hx hb dX6_intersect_178 rfl (lv_at hl 0 rfl) ?_
                    refine w_zaldN hx hb hK hP (k := 10) (by decide) lyM10 (i := i) (by omega) (by decide) dX6_intersect_179 ?_
                    have bo_53 := wM_52.2.2.1 (i) (by omega)
                    refine j0_eq (tgt := 218) hx hb dX6_intersect_180 (by decide) (fun c_54 => ?_) (fun c_54 => ?_)
                    · have hv := hv.trans (if_pos c_54)
                      refine lv_iinc (v := nI (i + 1)) (lv' := [(2, .int (nI (i + 1))), (1, .int y1_130), (0, .ref (ad (0)))]) hx hb dX6_intersect_218 hl (k := 0) rfl (show nI (i) + 1 = nI (i + 1) from nI_1 _) (by decide) rfl (fun ls hl => ?_)
                      refine lv_goto (tgt := 130) hx hb dX6_intersect_221 (by decide) ?_
                      exact ih (i + 1) y1_130 M_52 _ _ _ (by omega) (by omega) (by omega) (wM_52) hv hP hS (lv_sub hl [0, 1, 2] rfl)
                    · have hv := hv.trans (if_neg c_54)
                      refine lv_aload_n hx hb dX6_intersect_183 rfl (lv_at hl 2 rfl) ?_
                      refine lv_iload_n hx hb dX6_intersect_184 rfl (lv_at hl 1 rfl) ?_
                      refine j0_ne (tgt := 201) hx hb dX6_intersect_185 (by decide) (fun c_55 => ?_) (fun c_55 => ?_)
                      · have hv := hv.trans (if_pos c_55)
                        refine lv_aload_n hx hb dX6_intersect_188 rfl (lv_at hl 2 rfl) ?_
                        refine lv_iload_n hx hb dX6_intersect_189 rfl (lv_at hl 0 rfl) ?_
                        refine kVl hx hb hml hown hts hK hP hS hA (As := [.int (nI i)]) (rest := [.ref (ad (0))]) (c_X6_to l dC dI cA ad hI M_52  (i) (by omega) wM_52 ) (mkV hts q_1073 q_53 q_1070 q_1072 q_39 hyX6_to rfl rfl ⟨(Nat.le_of_ble_eq_true rfl), (Nat.le_of_ble_eq_true rfl)⟩) (w_recv hK hP (k := 0) (by decide) lyM0 (q := (RX6, TX6, 26)) rfl) rfl hl.1 rfl (Nat.le_of_ble_eq_true rfl) dX6_intersect_190 ⟨(Nat.le_of_ble_eq_true rfl), (Nat.le_of_ble_eq_true rfl)⟩ (fun r u H locs hw hP hS _ _ => ?_)
                        obtain ⟨hw, hu⟩ := hw
                        rw [hu] at hP
                        have hv := bnd_name hv hw
                        obtain ⟨r_56, er_56⟩ : ∃ z, z = r := ⟨_, rfl⟩
                        rw [← er_56] at hv hw
                        refine w_eql er_56.symm ?_
                        have gr_56 := hw
                        refine lv_aload_n hx hb dX6_intersect_193 rfl (lv_at hl 2 rfl) ?_
                        refine fg_X6_191 hx hb hts hK hP hown dX6_intersect_194 ?_
                        refine jL_ge (tgt := 209) hx hb dX6_intersect_197 dX6_intersect_198 (by decide) (fun c_57 => ?_) (fun c_57 => ?_)
                        · have hv := hv.trans (if_pos c_57)
                          refine lv_aload_n hx hb dX6_intersect_201 rfl (lv_at hl 2 rfl) ?_
                          refine lv_iload_n hx hb dX6_intersect_202 rfl (lv_at hl 0 rfl) ?_
                          refine kVl hx hb hml hown hts hK hP hS hA (As := [.int (nI i)]) (rest := [.ref (ad (0))]) (c_X6_to l dC dI cA ad hI M_52  (i) (by omega) wM_52 ) (mkV hts q_1073 q_53 q_1070 q_1072 q_39 hyX6_to rfl rfl ⟨(Nat.le_of_ble_eq_true rfl), (Nat.le_of_ble_eq_true rfl)⟩) (w_recv hK hP (k := 0) (by decide) lyM0 (q := (RX6, TX6, 26)) rfl) rfl hl.1 rfl (Nat.le_of_ble_eq_true rfl) dX6_intersect_203 ⟨(Nat.le_of_ble_eq_true rfl), (Nat.le_of_ble_eq_true rfl)⟩ (fun r u H locs hw hP hS _ _ => ?_)
                          obtain ⟨hw, hu⟩ := hw
                          rw [hu] at hP
                          have hv := bnd_name hv hw
                          obtain ⟨r_58, er_58⟩ : ∃ z, z = r := ⟨_, rfl⟩
                          rw [← er_58] at hv hw
                          refine w_eql er_58.symm ?_
                          have gr_58 := hw
                          refine lv_goto (tgt := 213) hx hb dX6_intersect_206 (by decide) ?_
                          refine fp_X6_191 hx hb hts hK hP hI hS hA hown dX6_intersect_213 (fun H locs hP hS => ?_)
                          obtain ⟨M_59, eM_59⟩ : ∃ z : Mem, z = sL M_52 (5) r_58 := ⟨_, rfl⟩
                          rw [← eM_59] at hP
                          have hv := bnd_name hv eM_59
                          have wM_59 : WFm M_59 := by rw [eM_59]; exact WFm_sL wM_52
                          have ssM_59 : sn M_59 = sn M_52 := by rw [eM_59]; rfl
                          refine lv_iconst (v := 0) hx hb dX6_intersect_216 (by decide) ?_
                          refine lv_istore_n (lv' := [(1, .int (0 : Int32)), (2, .int (nI i)), (0, .ref (ad (0)))]) hx hb dX6_intersect_217 rfl hl (by decide) rfl (fun ls hl => ?_)
                          refine lv_iinc (v := nI (i + 1)) (lv' := [(2, .int (nI (i + 1))), (1, .int (0 : Int32)), (0, .ref (ad (0)))]) hx hb dX6_intersect_218 hl (k := 1) rfl (show nI (i) + 1 = nI (i + 1) from nI_1 _) (by decide) rfl (fun ls hl => ?_)
                          refine lv_goto (tgt := 130) hx hb dX6_intersect_221 (by decide) ?_
                          exact ih (i + 1) (0 : Int32) M_59 _ _ _ (by omega) (by omega) (by omega) (wM_59) hv hP hS (lv_sub hl [0, 1, 2] rfl)
                        · have hv := hv.trans (if_neg c_57)
                          refine lv_aload_n hx hb dX6_intersect_209 rfl (lv_at hl 2 rfl) ?_
                          refine fg_X6_191 hx hb hts hK hP hown dX6_intersect_210 ?_
                          refine fp_X6_191 hx hb hts hK hP hI hS hA hown dX6_intersect_213 (fun H locs hP hS => ?_)
                          obtain ⟨M_60, eM_60⟩ : ∃ z : Mem, z = sL M_52 (5) (gL M_52 (5)) := ⟨_, rfl⟩
                          rw [← eM_60] at hP
                          have hv := bnd_name hv eM_60
                          have wM_60 : WFm M_60 := by rw [eM_60]; exact WFm_sL wM_52
                          have ssM_60 : sn M_60 = sn M_52 := by rw [eM_60]; rfl
                          refine lv_iconst (v := 0) hx hb dX6_intersect_216 (by decide) ?_
                          refine lv_istore_n (lv' := [(1, .int (0 : Int32)), (2, .int (nI i)), (0, .ref (ad (0)))]) hx hb dX6_intersect_217 rfl hl (by decide) rfl (fun ls hl => ?_)
                          refine lv_iinc (v := nI (i + 1)) (lv' := [(2, .int (nI (i + 1))), (1, .int (0 : Int32)), (0, .ref (ad (0)))]) hx hb dX6_intersect_218 hl (k := 1) rfl (show nI (i) + 1 = nI (i + 1) from nI_1 _) (by decide) rfl (fun ls hl => ?_)
                          refine lv_goto (tgt := 130) hx hb dX6_intersect_221 (by decide) ?_
                          exact ih (i + 1) (0 : Int32) M_60 _ _ _ (by omega) (by omega) (by omega) (wM_60) hv hP hS (lv_sub hl [0, 1, 2] rfl)
                      · have hv := hv.trans (if_neg c_55)
                        refine lv_aload_n hx hb dX6_intersect_201 rfl (lv_at hl 2 rfl) ?_
                        refine lv_iload_n hx hb dX6_intersect_202 rfl (lv_at hl 0 rfl) ?_
                        refine kVl hx hb hml hown hts hK hP hS hA (As := [.int (nI i)]) (rest := [.ref (ad (0))]) (c_X6_to l dC dI cA ad hI M_52  (i) (by omega) wM_52 ) (mkV hts q_1073 q_53 q_1070 q_1072 q_39 hyX6_to rfl rfl ⟨(Nat.le_of_ble_eq_true rfl), (Nat.le_of_ble_eq_true rfl)⟩) (w_recv hK hP (k := 0) (by decide) lyM0 (q := (RX6, TX6, 26)) rfl) rfl hl.1 rfl (Nat.le_of_ble_eq_true rfl) dX6_intersect_203 ⟨(Nat.le_of_ble_eq_true rfl), (Nat.le_of_ble_eq_true rfl)⟩ (fun r u H locs hw hP hS _ _ => ?_)
                        obtain ⟨hw, hu⟩ := hw
                        rw [hu] at hP
                        have hv := bnd_name hv hw
                        obtain ⟨r_61, er_61⟩ : ∃ z, z = r := ⟨_, rfl⟩
                        rw [← er_61] at hv hw
                        refine w_eql er_61.symm ?_
                        have gr_61 := hw
                        refine lv_goto (tgt := 213) hx hb dX6_intersect_206 (by decide) ?_
                        refine fp_X6_191 hx hb hts hK hP hI hS hA hown dX6_intersect_213 (fun H locs hP hS => ?_)
                        obtain ⟨M_62, eM_62⟩ : ∃ z : Mem, z = sL M_52 (5) r_61 := ⟨_, rfl⟩
                        rw [← eM_62] at hP
                        have hv := bnd_name hv eM_62
                        have wM_62 : WFm M_62 := by rw [eM_62]; exact WFm_sL wM_52
                        have ssM_62 : sn M_62 = sn M_52 := by rw [eM_62]; rfl
                        refine lv_iconst (v := 0) hx hb dX6_intersect_216 (by decide) ?_
                        refine lv_istore_n (lv' := [(1, .int (0 : Int32)), (2, .int (nI i)), (0, .ref (ad (0)))]) hx hb dX6_intersect_217 rfl hl (by decide) rfl (fun ls hl => ?_)
                        refine lv_iinc (v := nI (i + 1)) (lv' := [(2, .int (nI (i + 1))), (1, .int (0 : Int32)), (0, .ref (ad (0)))]) hx hb dX6_intersect_218 hl (k := 1) rfl (show nI (i) + 1 = nI (i + 1) from nI_1 _) (by decide) rfl (fun ls hl => ?_)
                        refine lv_goto (tgt := 130) hx hb dX6_intersect_221 (by decide) ?_
                        exact ih (i + 1) (0 : Int32) M_62 _ _ _ (by omega) (by omega) (by omega) (wM_62) hv hP hS (lv_sub hl [0, 1, 2] rfl)
                · have hv := hv.trans (if_neg c_38)
                  refine lv_iconst (v := 0) hx hb dX6_intersect_172 (by decide) ?_
                  refine w_zastN hx hb hK hP hI hS hA (k := 10) (by decide) lyM10 uAM10 rfl (i := i) (by omega) (by decide) dX6_intersect_173 (fun H locs hP hS => ?_)
                  obtain ⟨M_63, eM_63⟩ : ∃ z : Mem, z = sB M_130 6 (upd (gB M_130 6) (i) (0 : Int32)) := ⟨_, rfl⟩
                  rw [← eM_63] at hP
                  have hv := bnd_name hv eM_63
                  have wM_63 : WFm M_63 := by rw [eM_63]; exact WFm_6 hx1_130 (by decide)
                  have ssM_63 : sn M_63 = sn M_130 := by rw [eM_63]; rfl
                  refine lv_aload_n hx hb dX6_intersect_174 rfl (lv_at hl 2 rfl) ?_
                  refine fg_X6_42 hx hb hts hK hP hown dX6_intersect_175 ?_
                  refine lv_iload_n hx hb dX6_intersect_178 rfl (lv_at hl 0 rfl) ?_
                  refine w_zaldN hx hb hK hP (k := 10) (by decide) lyM10 (i := i) (by omega) (by decide) dX6_intersect_179 ?_
                  have bo_64 := wM_63.2.2.1 (i) (by omega)
                  refine j0_eq (tgt := 218) hx hb dX6_intersect_180 (by decide) (fun c_65 => ?_) (fun c_65 => ?_)
                  · have hv := hv.trans (if_pos c_65)
                    refine lv_iinc (v := nI (i + 1)) (lv' := [(2, .int (nI (i + 1))), (1, .int y1_130), (0, .ref (ad (0)))]) hx hb dX6_intersect_218 hl (k := 0) rfl (show nI (i) + 1 = nI (i + 1) from nI_1 _) (by decide) rfl (fun ls hl => ?_)
                    refine lv_goto (tgt := 130) hx hb dX6_intersect_221 (by decide) ?_
                    exact ih (i + 1) y1_130 M_63 _ _ _ (by omega) (by omega) (by omega) (wM_63) hv hP hS (lv_sub hl [0, 1, 2] rfl)
                  · have hv := hv.trans (if_neg c_65)
                    refine lv_aload_n hx hb dX6_intersect_183 rfl (lv_at hl 2 rfl) ?_
                    refine lv_iload_n hx hb dX6_intersect_184 rfl (lv_at hl 1 rfl) ?_
                    refine j0_ne (tgt := 201) hx hb dX6_intersect_185 (by decide) (fun c_66 => ?_) (fun c_66 => ?_)
                    · have hv := hv.trans (if_pos c_66)
                      refine lv_aload_n hx hb dX6_intersect_188 rfl (lv_at hl 2 rfl) ?_
                      refine lv_iload_n hx hb dX6_intersect_189 rfl (lv_at hl 0 rfl) ?_
                      refine kVl hx hb hml hown hts hK hP hS hA (As := [.int (nI i)]) (rest := [.ref (ad (0))]) (c_X6_to l dC dI cA ad hI M_63  (i) (by omega) wM_63 ) (mkV hts q_1073 q_53 q_1070 q_1072 q_39 hyX6_to rfl rfl ⟨(Nat.le_of_ble_eq_true rfl), (Nat.le_of_ble_eq_true rfl)⟩) (w_recv hK hP (k := 0) (by decide) lyM0 (q := (RX6, TX6, 26)) rfl) rfl hl.1 rfl (Nat.le_of_ble_eq_true rfl) dX6_intersect_190 ⟨(Nat.le_of_ble_eq_true rfl), (Nat.le_of_ble_eq_true rfl)⟩ (fun r u H locs hw hP hS _ _ => ?_)
                      obtain ⟨hw, hu⟩ := hw
                      rw [hu] at hP
                      have hv := bnd_name hv hw
                      obtain ⟨r_67, er_67⟩ : ∃ z, z = r := ⟨_, rfl⟩
                      rw [← er_67] at hv hw
                      refine w_eql er_67.symm ?_
                      have gr_67 := hw
                      refine lv_aload_n hx hb dX6_intersect_193 rfl (lv_at hl 2 rfl) ?_
                      refine fg_X6_191 hx hb hts hK hP hown dX6_intersect_194 ?_
                      refine jL_ge (tgt := 209) hx hb dX6_intersect_197 dX6_intersect_198 (by decide) (fun c_68 => ?_) (fun c_68 => ?_)
                      · have hv := hv.trans (if_pos c_68)
                        refine lv_aload_n hx hb dX6_intersect_201 rfl (lv_at hl 2 rfl) ?_
                        refine lv_iload_n hx hb dX6_intersect_202 rfl (lv_at hl 0 rfl) ?_
                        refine kVl hx hb hml hown hts hK hP hS hA (As := [.int (nI i)]) (rest := [.ref (ad (0))]) (c_X6_to l dC dI cA ad hI M_63  (i) (by omega) wM_63 ) (mkV hts q_1073 q_53 q_1070 q_1072 q_39 hyX6_to rfl rfl ⟨(Nat.le_of_ble_eq_true rfl), (Nat.le_of_ble_eq_true rfl)⟩) (w_recv hK hP (k := 0) (by decide) lyM0 (q := (RX6, TX6, 26)) rfl) rfl hl.1 rfl (Nat.le_of_ble_eq_true rfl) dX6_intersect_203 ⟨(Nat.le_of_ble_eq_true rfl), (Nat.le_of_ble_eq_true rfl)⟩ (fun r u H locs hw hP hS _ _ => ?_)
                        obtain ⟨hw, hu⟩ := hw
                        rw [hu] at hP
                        have hv := bnd_name hv hw
                        obtain ⟨r_69, er_69⟩ : ∃ z, z = r := ⟨_, rfl⟩
                        rw [← er_69] at hv hw
                        refine w_eql er_69.symm ?_
                        have gr_69 := hw
                        refine lv_goto (tgt := 213) hx hb dX6_intersect_206 (by decide) ?_
                        refine fp_X6_191 hx hb hts hK hP hI hS hA hown dX6_intersect_213 (fun H locs hP hS => ?_)
                        obtain ⟨M_70, eM_70⟩ : ∃ z : Mem, z = sL M_63 (5) r_69 := ⟨_, rfl⟩
                        rw [← eM_70] at hP
                        have hv := bnd_name hv eM_70
                        have wM_70 : WFm M_70 := by rw [eM_70]; exact WFm_sL wM_63
                        have ssM_70 : sn M_70 = sn M_63 := by rw [eM_70]; rfl
                        refine lv_iconst (v := 0) hx hb dX6_intersect_216 (by decide) ?_
                        refine lv_istore_n (lv' := [(1, .int (0 : Int32)), (2, .int (nI i)), (0, .ref (ad (0)))]) hx hb dX6_intersect_217 rfl hl (by decide) rfl (fun ls hl => ?_)
                        refine lv_iinc (v := nI (i + 1)) (lv' := [(2, .int (nI (i + 1))), (1, .int (0 : Int32)), (0, .ref (ad (0)))]) hx hb dX6_intersect_218 hl (k := 1) rfl (show nI (i) + 1 = nI (i + 1) from nI_1 _) (by decide) rfl (fun ls hl => ?_)
                        refine lv_goto (tgt := 130) hx hb dX6_intersect_221 (by decide) ?_
                        exact ih (i + 1) (0 : Int32) M_70 _ _ _ (by omega) (by omega) (by omega) (wM_70) hv hP hS (lv_sub hl [0, 1, 2] rfl)
                      · have hv := hv.trans (if_neg c_68)
                        refine lv_aload_n hx hb dX6_intersect_209 rfl (lv_at hl 2 rfl) ?_
                        refine fg_X6_191 hx hb hts hK hP hown dX6_intersect_210 ?_
                        refine fp_X6_191 hx hb hts hK hP hI hS hA hown dX6_intersect_213 (fun H locs hP hS => ?_)
                        obtain ⟨M_71, eM_71⟩ : ∃ z : Mem, z = sL M_63 (5) (gL M_63 (5)) := ⟨_, rfl⟩
                        rw [← eM_71] at hP
                        have hv := bnd_name hv eM_71
                        have wM_71 : WFm M_71 := by rw [eM_71]; exact WFm_sL wM_63
                        have ssM_71 : sn M_71 = sn M_63 := by rw [eM_71]; rfl
                        refine lv_iconst (v := 0) hx hb dX6_intersect_216 (by decide) ?_
                        refine lv_istore_n (lv' := [(1, .int (0 : Int32)), (2, .int (nI i)), (0, .ref (ad (0)))]) hx hb dX6_intersect_217 rfl hl (by decide) rfl (fun ls hl => ?_)
                        refine lv_iinc (v := nI (i + 1)) (lv' := [(2, .int (nI (i + 1))), (1, .int (0 : Int32)), (0, .ref (ad (0)))]) hx hb dX6_intersect_218 hl (k := 1) rfl (show nI (i) + 1 = nI (i + 1) from nI_1 _) (by decide) rfl (fun ls hl => ?_)
                        refine lv_goto (tgt := 130) hx hb dX6_intersect_221 (by decide) ?_
                        exact ih (i + 1) (0 : Int32) M_71 _ _ _ (by omega) (by omega) (by omega) (wM_71) hv hP hS (lv_sub hl [0, 1, 2] rfl)
                    · have hv := hv.trans (if_neg c_66)
                      refine lv_aload_n hx hb dX6_intersect_201 rfl (lv_at hl 2 rfl) ?_
                      refine lv_iload_n hx hb dX6_intersect_202 rfl (lv_at hl 0 rfl) ?_
                      refine kVl hx hb hml hown hts hK hP hS hA (As := [.int (nI i)]) (rest := [.ref (ad (0))]) (c_X6_to l dC dI cA ad hI M_63  (i) (by omega) wM_63 ) (mkV hts q_1073 q_53 q_1070 q_1072 q_39 hyX6_to rfl rfl ⟨(Nat.le_of_ble_eq_true rfl), (Nat.le_of_ble_eq_true rfl)⟩) (w_recv hK hP (k := 0) (by decide) lyM0 (q := (RX6, TX6, 26)) rfl) rfl hl.1 rfl (Nat.le_of_ble_eq_true rfl) dX6_intersect_203 ⟨(Nat.le_of_ble_eq_true rfl), (Nat.le_of_ble_eq_true rfl)⟩ (fun r u H locs hw hP hS _ _ => ?_)
                      obtain ⟨hw, hu⟩ := hw
                      rw [hu] at hP
                      have hv := bnd_name hv hw
                      obtain ⟨r_72, er_72⟩ : ∃ z, z = r := ⟨_, rfl⟩
                      rw [← er_72] at hv hw
                      refine w_eql er_72.symm ?_
                      have gr_72 := hw
                      refine lv_goto (tgt := 213) hx hb dX6_intersect_206 (by decide) ?_
                      refine fp_X6_191 hx hb hts hK hP hI hS hA hown dX6_intersect_213 (fun H locs hP hS => ?_)
                      obtain ⟨M_73, eM_73⟩ : ∃ z : Mem, z = sL M_63 (5) r_72 := ⟨_, rfl⟩
                      rw [← eM_73] at hP
                      have hv := bnd_name hv eM_73
                      have wM_73 : WFm M_73 := by rw [eM_73]; exact WFm_sL wM_63
                      have ssM_73 : sn M_73 = sn M_63 := by rw [eM_73]; rfl
                      refine lv_iconst (v := 0) hx hb dX6_intersect_216 (by decide) ?_
                      refine lv_istore_n (lv' := [(1, .int (0 : Int32)), (2, .int (nI i)), (0, .ref (ad (0)))]) hx hb dX6_intersect_217 rfl hl (by decide) rfl (fun ls hl => ?_)
                      refine lv_iinc (v := nI (i + 1)) (lv' := [(2, .int (nI (i + 1))), (1, .int (0 : Int32)), (0, .ref (ad (0)))]) hx hb dX6_intersect_218 hl (k := 1) rfl (show nI (i) + 1 = nI (i + 1) from nI_1 _) (by decide) rfl (fun ls hl => ?_)
                      refine lv_goto (tgt := 130) hx hb dX6_intersect_221 (by decide) ?_
                      exact ih (i + 1) (0 : Int32) M_73 _ _ _ (by omega) (by omega) (by omega) (wM_73) hv hP hS (lv_sub hl [0, 1, 2] rfl)
              · have hv := hv.trans (if_neg c_37)
                have hc_37 : ¬ i < sn M_130 := fun h => c_37 (nI_lt h (by omega))
                refine lv_iconst (v := 0) hx hb dX6_intersect_172 (by decide) ?_
                refine w_zastN hx hb hK hP hI hS hA (k := 10) (by decide) lyM10 uAM10 rfl (i := i) (by omega) (by decide) dX6_intersect_173 (fun H locs hP hS => ?_)
                obtain ⟨M_74, eM_74⟩ : ∃ z : Mem, z = sB M_130 6 (upd (gB M_130 6) (i) (0 : Int32)) := ⟨_, rfl⟩
                rw [← eM_74] at hP
                have hv := bnd_name hv eM_74
                have wM_74 : WFm M_74 := by rw [eM_74]; exact WFm_6 hx1_130 (by decide)
                have ssM_74 : sn M_74 = sn M_130 := by rw [eM_74]; rfl
                refine lv_aload_n hx hb dX6_intersect_174 rfl (lv_at hl 2 rfl) ?_
                refine fg_X6_42 hx hb hts hK hP hown dX6_intersect_175 ?_
                refine lv_iload_n hx hb dX6_intersect_178 rfl (lv_at hl 0 rfl) ?_
                refine w_zaldN hx hb hK hP (k := 10) (by decide) lyM10 (i := i) (by omega) (by decide) dX6_intersect_179 ?_
                have bo_75 := wM_74.2.2.1 (i) (by omega)
                refine j0_eq (tgt := 218) hx hb dX6_intersect_180 (by decide) (fun c_76 => ?_) (fun c_76 => ?_)
                · have hv := hv.trans (if_pos c_76)
                  refine lv_iinc (v := nI (i + 1)) (lv' := [(2, .int (nI (i + 1))), (1, .int y1_130), (0, .ref (ad (0)))]) hx hb dX6_intersect_218 hl (k := 0) rfl (show nI (i) + 1 = nI (i + 1) from nI_1 _) (by decide) rfl (fun ls hl => ?_)
                  refine lv_goto (tgt := 130) hx hb dX6_intersect_221 (by decide) ?_
                  exact ih (i + 1) y1_130 M_74 _ _ _ (by omega) (by omega) (by omega) (wM_74) hv hP hS (lv_sub hl [0, 1, 2] rfl)
                · have hv := hv.trans (if_neg c_76)
                  refine lv_aload_n hx hb dX6_intersect_183 rfl (lv_at hl 2 rfl) ?_
                  refine lv_iload_n hx hb dX6_intersect_184 rfl (lv_at hl 1 rfl) ?_
                  refine j0_ne (tgt := 201) hx hb dX6_intersect_185 (by decide) (fun c_77 => ?_) (fun c_77 => ?_)
                  · have hv := hv.trans (if_pos c_77)
                    refine lv_aload_n hx hb dX6_intersect_188 rfl (lv_at hl 2 rfl) ?_
                    refine lv_iload_n hx hb dX6_intersect_189 rfl (lv_at hl 0 rfl) ?_
                    refine kVl hx hb hml hown hts hK hP hS hA (As := [.int (nI i)]) (rest := [.ref (ad (0))]) (c_X6_to l dC dI cA ad hI M_74  (i) (by omega) wM_74 ) (mkV hts q_1073 q_53 q_1070 q_1072 q_39 hyX6_to rfl rfl ⟨(Nat.le_of_ble_eq_true rfl), (Nat.le_of_ble_eq_true rfl)⟩) (w_recv hK hP (k := 0) (by decide) lyM0 (q := (RX6, TX6, 26)) rfl) rfl hl.1 rfl (Nat.le_of_ble_eq_true rfl) dX6_intersect_190 ⟨(Nat.le_of_ble_eq_true rfl), (Nat.le_of_ble_eq_true rfl)⟩ (fun r u H locs hw hP hS _ _ => ?_)
                    obtain ⟨hw, hu⟩ := hw
                    rw [hu] at hP
                    have hv := bnd_name hv hw
                    obtain ⟨r_78, er_78⟩ : ∃ z, z = r := ⟨_, rfl⟩
                    rw [← er_78] at hv hw
                    refine w_eql er_78.symm ?_
                    have gr_78 := hw
                    refine lv_aload_n hx hb dX6_intersect_193 rfl (lv_at hl 2 rfl) ?_
                    refine fg_X6_191 hx hb hts hK hP hown dX6_intersect_194 ?_
                    refine jL_ge (tgt := 209) hx hb dX6_intersect_197 dX6_intersect_198 (by decide) (fun c_79 => ?_) (fun c_79 => ?_)
                    · have hv := hv.trans (if_pos c_79)
                      refine lv_aload_n hx hb dX6_intersect_201 rfl (lv_at hl 2 rfl) ?_
                      refine lv_iload_n hx hb dX6_intersect_202 rfl (lv_at hl 0 rfl) ?_
                      refine kVl hx hb hml hown hts hK hP hS hA (As := [.int (nI i)]) (rest := [.ref (ad (0))]) (c_X6_to l dC dI cA ad hI M_74  (i) (by omega) wM_74 ) (mkV hts q_1073 q_53 q_1070 q_1072 q_39 hyX6_to rfl rfl ⟨(Nat.le_of_ble_eq_true rfl), (Nat.le_of_ble_eq_true rfl)⟩) (w_recv hK hP (k := 0) (by decide) lyM0 (q := (RX6, TX6, 26)) rfl) rfl hl.1 rfl (Nat.le_of_ble_eq_true rfl) dX6_intersect_203 ⟨(Nat.le_of_ble_eq_true rfl), (Nat.le_of_ble_eq_true rfl)⟩ (fun r u H locs hw hP hS _ _ => ?_)
                      obtain ⟨hw, hu⟩ := hw
                      rw [hu] at hP
                      have hv := bnd_name hv hw
                      obtain ⟨r_80, er_80⟩ : ∃ z, z = r := ⟨_, rfl⟩
                      rw [← er_80] at hv hw
                      refine w_eql er_80.symm ?_
                      have gr_80 := hw
                      refine lv_goto (tgt := 213) hx hb dX6_intersect_206 (by decide) ?_
                      refine fp_X6_191 hx hb hts hK hP hI hS hA hown dX6_intersect_213 (fun H locs hP hS => ?_)
                      obtain ⟨M_81, eM_81⟩ : ∃ z : Mem, z = sL M_74 (5) r_80 := ⟨_, rfl⟩
                      rw [← eM_81] at hP
                      have hv := bnd_name hv eM_81
                      have wM_81 : WFm M_81 := by rw [eM_81]; exact WFm_sL wM_74
                      have ssM_81 : sn M_81 = sn M_74 := by rw [eM_81]; rfl
                      refine lv_iconst (v := 0) hx hb dX6_intersect_216 (by decide) ?_
                      refine lv_istore_n (lv' := [(1, .int (0 : Int32)), (2, .int (nI i)), (0, .ref (ad (0)))]) hx hb dX6_intersect_217 rfl hl (by decide) rfl (fun ls hl => ?_)
                      refine lv_iinc (v := nI (i + 1)) (lv' := [(2, .int (nI (i + 1))), (1, .int (0 : Int32)), (0, .ref (ad (0)))]) hx hb dX6_intersect_218 hl (k := 1) rfl (show nI (i) + 1 = nI (i + 1) from nI_1 _) (by decide) rfl (fun ls hl => ?_)
                      refine lv_goto (tgt := 130) hx hb dX6_intersect_221 (by decide) ?_
                      exact ih (i + 1) (0 : Int32) M_81 _ _ _ (by omega) (by omega) (by omega) (wM_81) hv hP hS (lv_sub hl [0, 1, 2] rfl)
                    · have hv := hv.trans (if_neg c_79)
                      refine lv_aload_n hx hb dX6_intersect_209 rfl (lv_at hl 2 rfl) ?_
                      refine fg_X6_191 hx hb hts hK hP hown dX6_intersect_210 ?_
                      refine fp_X6_191 hx hb hts hK hP hI hS hA hown dX6_intersect_213 (fun H locs hP hS => ?_)
                      obtain ⟨M_82, eM_82⟩ : ∃ z : Mem, z = sL M_74 (5) (gL M_74 (5)) := ⟨_, rfl⟩
                      rw [← eM_82] at hP
                      have hv := bnd_name hv eM_82
                      have wM_82 : WFm M_82 := by rw [eM_82]; exact WFm_sL wM_74
                      have ssM_82 : sn M_82 = sn M_74 := by rw [eM_82]; rfl
                      refine lv_iconst (v := 0) hx hb dX6_intersect_216 (by decide) ?_
                      refine lv_istore_n (lv' := [(1, .int (0 : Int32)), (2, .int (nI i)), (0, .ref (ad (0)))]) hx hb dX6_intersect_217 rfl hl (by decide) rfl (fun ls hl => ?_)
                      refine lv_iinc (v := nI (i + 1)) (lv' := [(2, .int (nI (i + 1))), (1, .int (0 : Int32)), (0, .ref (ad (0)))]) hx hb dX6_intersect_218 hl (k := 1) rfl (show nI (i) + 1 = nI (i + 1) from nI_1 _) (by decide) rfl (fun ls hl => ?_)
                      refine lv_goto (tgt := 130) hx hb dX6_intersect_221 (by decide) ?_
                      exact ih (i + 1) (0 : Int32) M_82 _ _ _ (by omega) (by omega) (by omega) (wM_82) hv hP hS (lv_sub hl [0, 1, 2] rfl)
                  · have hv := hv.trans (if_neg c_77)
                    refine lv_aload_n hx hb dX6_intersect_201 rfl (lv_at hl 2 rfl) ?_
                    refine lv_iload_n hx hb dX6_intersect_202 rfl (lv_at hl 0 rfl) ?_
                    refine kVl hx hb hml hown hts hK hP hS hA (As := [.int (nI i)]) (rest := [.ref (ad (0))]) (c_X6_to l dC dI cA ad hI M_74  (i) (by omega) wM_74 ) (mkV hts q_1073 q_53 q_1070 q_1072 q_39 hyX6_to rfl rfl ⟨(Nat.le_of_ble_eq_true rfl), (Nat.le_of_ble_eq_true rfl)⟩) (w_recv hK hP (k := 0) (by decide) lyM0 (q := (RX6, TX6, 26)) rfl) rfl hl.1 rfl (Nat.le_of_ble_eq_true rfl) dX6_intersect_203 ⟨(Nat.le_of_ble_eq_true rfl), (Nat.le_of_ble_eq_true rfl)⟩ (fun r u H locs hw hP hS _ _ => ?_)
                    obtain ⟨hw, hu⟩ := hw
                    rw [hu] at hP
                    have hv := bnd_name hv hw
                    obtain ⟨r_83, er_83⟩ : ∃ z, z = r := ⟨_, rfl⟩
                    rw [← er_83] at hv hw
                    refine w_eql er_83.symm ?_
                    have gr_83 := hw
                    refine lv_goto (tgt := 213) hx hb dX6_intersect_206 (by decide) ?_
                    refine fp_X6_191 hx hb hts hK hP hI hS hA hown dX6_intersect_213 (fun H locs hP hS => ?_)
                    obtain ⟨M_84, eM_84⟩ : ∃ z : Mem, z = sL M_74 (5) r_83 := ⟨_, rfl⟩
                    rw [← eM_84] at hP
                    have hv := bnd_name hv eM_84
                    have wM_84 : WFm M_84 := by rw [eM_84]; exact WFm_sL wM_74
                    have ssM_84 : sn M_84 = sn M_74 := by rw [eM_84]; rfl
                    refine lv_iconst (v := 0) hx hb dX6_intersect_216 (by decide) ?_
                    refine lv_istore_n (lv' := [(1, .int (0 : Int32)), (2, .int (nI i)), (0, .ref (ad (0)))]) hx hb dX6_intersect_217 rfl hl (by decide) rfl (fun ls hl => ?_)
                    refine lv_iinc (v := nI (i + 1)) (lv' := [(2, .int (nI (i + 1))), (1, .int (0 : Int32)), (0, .ref (ad (0)))]) hx hb dX6_intersect_218 hl (k := 1) rfl (show nI (i) + 1 = nI (i + 1) from nI_1 _) (by decide) rfl (fun ls hl => ?_)
                    refine lv_goto (tgt := 130) hx hb dX6_intersect_221 (by decide) ?_
                    exact ih (i + 1) (0 : Int32) M_84 _ _ _ (by omega) (by omega) (by omega) (wM_84) hv hP hS (lv_sub hl [0, 1, 2] rfl)
            · have hv := hv.trans (if_neg c_35)
              have hc_35 : ¬ i < 8 := fun h => c_35 (nI_lt h (by decide))
              exact W.vret hx hb hr (fun t ht hW => ⟨⟨M_130, rfl, ⟨hv.symm.trans eV, hx1_130⟩, by rw [ht]; exact hP, va_K.moved hW.alike hK⟩, hS.F ht⟩) hS.2.2 dX6_intersect_224
        exact L130 (8 + 1 - 0) 0 (1 : Int32) M_12 _ _ _ (by omega) (by omega) (by omega) (hx1_12) hv hP hS (lv_sub hl [0, 1, 2] rfl)
  exact L12 (sn M + 1 - 0) 0  M_2 _ _ _ (by omega) (by omega) (by omega) (wM_2) hv hP hS (lv_sub hl [0, 1] rfl)
def f_X6_surviving_L4 (M : Mem)  : Nat → Nat → Int32 → Int32
  | 0, _, _ => 0
  | r + 1, i, y1_4 => if nI i < (8 : Int32) then if gB M 7 (i) = (0 : Int32) then bnd ((y1_4 + (0 : Int32))) fun x_4 => f_X6_surviving_L4 M  r (i + 1) x_4 else bnd ((y1_4 + (1 : Int32))) fun x_5 => f_X6_surviving_L4 M  r (i + 1) x_5 else y1_4
def f_X6_surviving (M : Mem)  : Int32 := f_X6_surviving_L4 M  (8 + 1 - 0) 0 (0 : Int32)
theorem hyX6_surviving : yX6_surviving.cls ≠ "java/lang/invoke/MethodHandle" ∧ yX6_surviving.cls ≠ "java/lang/invoke/VarHandle" ∧ (parseMethodDescriptor yX6_surviving.desc).map (fun d => d.parameters.length) = some 0 := by decide +kernel
set_option maxHeartbeats 4000000 in
set_option maxRecDepth 100000 in
theorem c_X6_surviving (l : Launch) (dC : Nat → ClassId) (dI : Nat → Nat → Nat) (cA : Nat → ClassId) (ad : Nat → Nat) (hI : Inj 12 ad) (M : Mem) (hw0 : WFm M)  : Met l yX6_surviving (.code yX6_surviving cX6_surviving 3 (some .int) :: AG) ({ frames := 0, cells := 0, slots := 0, locals := 0 } : Room) (va_Pc [.ref (ad (0))] (PM dC dI cA ad M)) (va_Qi (fun r u => r = f_X6_surviving M  ∧ u = M ∧ (r = nI (cnt7 M))) (PM dC dI cA ad) (adS 12 ad)) 0 0 (adS 12 ad) := by
  refine cMet (by decide) (Nat.le_of_ble_eq_true rfl) ?_
  intro p e s m below meth c ls hx hb hr hml hlocks hown hts hK hP hS hl
  have hA : ∀ q, adS 12 ad q → adS 12 ad q := fun _ h => h
  have hl : lv_has ls 3 [(0, .ref (ad (0)))] := hl
  obtain ⟨V, eV⟩ : ∃ z, z = f_X6_surviving M  := ⟨_, rfl⟩
  have hv := eV
  unfold f_X6_surviving at hv
  refine lv_iconst (v := 0) hx hb dX6_surviving_0 (by decide) ?_
  refine lv_istore_n (lv' := [(1, .int (0 : Int32)), (0, .ref (ad (0)))]) hx hb dX6_surviving_1 rfl hl (by decide) rfl (fun ls hl => ?_)
  refine lv_iconst (v := 0) hx hb dX6_surviving_2 (by decide) ?_
  refine lv_istore_n (lv' := [(2, .int (0 : Int32)), (1, .int (0 : Int32)), (0, .ref (ad (0)))]) hx hb dX6_surviving_3 rfl hl (by decide) rfl (fun ls hl => ?_)
  have L4 : ∀ (r i : Nat) (y1_4 : Int32) (H : Heap) (locs : List Loc) (ls : Array Slot), i + r = 8 + 1 → i ≤ 8 → (y1_4 = nI (cntTo M i)) → V = f_X6_surviving_L4 M  r i y1_4 → va_P (dC, dI) vwCl (wld 12 layM cA ad M) H → va_S (adS 12 ad) s.heap H locs → lv_has ls 3 [(2, .int (nI i)), (1, .int y1_4), (0, .ref (ad (0)))] → W p l e ({ frames := 0, cells := 0, slots := 0, locals := 0 } : Room) s m ([.ref (ad (0))] : List Value).toArray below meth c H locs 0 0 (MQ below (va_Qi (fun r u => r = f_X6_surviving M  ∧ u = M ∧ (r = nI (cnt7 M))) (PM dC dI cA ad) (adS 12 ad)) ([.ref (ad (0))] : List Value).toArray s 0 0 (adS 12 ad)) (F0 m 4 ls []) := by
    intro r
    induction r with
    | zero =>
      intro i y1_4 H locs ls hir hib
      omega
    | succ r ih =>
      intro i y1_4 H locs ls hir hib hx0_4 hv hP hS hl
      rw [f_X6_surviving_L4] at hv
      refine lv_iload_n hx hb dX6_surviving_4 rfl (lv_at hl 0 rfl) ?_
      refine lv_bipush (v := 8) hx hb dX6_surviving_5 (by decide) ?_
      refine jI_ge (tgt := 33) hx hb dX6_surviving_7 (by decide) (fun c_1 => ?_) (fun c_1 => ?_)
      · have hv := hv.trans (if_pos c_1)
        have hc_1 : i < 8 := nI_lt8 (n := 8) c_1 (by omega) (by decide)
        refine lv_iload_n hx hb dX6_surviving_10 rfl (lv_at hl 1 rfl) ?_
        refine lv_aload_n hx hb dX6_surviving_11 rfl (lv_at hl 2 rfl) ?_
        refine fg_X6_46 hx hb hts hK hP hown dX6_surviving_12 ?_
        refine lv_iload_n hx hb dX6_surviving_15 rfl (lv_at hl 0 rfl) ?_
        refine w_zaldN hx hb hK hP (k := 11) (by decide) lyM11 (i := i) (by omega) (by decide) dX6_surviving_16 ?_
        have bo_2 := hw0.2.2.2 (i) (by omega)
        refine j0_eq (tgt := 24) hx hb dX6_surviving_17 (by decide) (fun c_3 => ?_) (fun c_3 => ?_)
        · have hv := hv.trans (if_pos c_3)
          refine lv_iconst (v := 0) hx hb dX6_surviving_24 (by decide) ?_
          refine lv_iadd hx hb dX6_surviving_25 ?_
          refine lv_topi (fun x_4 ex_4 => ?_)
          have hv := bnd_name hv ex_4
          refine lv_istore_n (lv' := [(1, .int x_4), (2, .int (nI i)), (0, .ref (ad (0)))]) hx hb dX6_surviving_26 rfl hl (by decide) rfl (fun ls hl => ?_)
          refine lv_iinc (v := nI (i + 1)) (lv' := [(2, .int (nI (i + 1))), (1, .int x_4), (0, .ref (ad (0)))]) hx hb dX6_surviving_27 hl (k := 1) rfl (show nI (i) + 1 = nI (i + 1) from nI_1 _) (by decide) rfl (fun ls hl => ?_)
          refine lv_goto (tgt := 4) hx hb dX6_surviving_30 (by decide) ?_
          exact ih (i + 1) x_4 _ _ _ (by omega) (by omega) (by rw [ex_4]; exact cnt_step hx0_4 c_3) hv hP hS (lv_sub hl [0, 1, 2] rfl)
        · have hv := hv.trans (if_neg c_3)
          refine lv_iconst (v := 1) hx hb dX6_surviving_20 (by decide) ?_
          refine lv_goto (tgt := 25) hx hb dX6_surviving_21 (by decide) ?_
          refine lv_iadd hx hb dX6_surviving_25 ?_
          refine lv_topi (fun x_5 ex_5 => ?_)
          have hv := bnd_name hv ex_5
          refine lv_istore_n (lv' := [(1, .int x_5), (2, .int (nI i)), (0, .ref (ad (0)))]) hx hb dX6_surviving_26 rfl hl (by decide) rfl (fun ls hl => ?_)
          refine lv_iinc (v := nI (i + 1)) (lv' := [(2, .int (nI (i + 1))), (1, .int x_5), (0, .ref (ad (0)))]) hx hb dX6_surviving_27 hl (k := 1) rfl (show nI (i) + 1 = nI (i + 1) from nI_1 _) (by decide) rfl (fun ls hl => ?_)
          refine lv_goto (tgt := 4) hx hb dX6_surviving_30 (by decide) ?_
          exact ih (i + 1) x_5 _ _ _ (by omega) (by omega) (by rw [ex_5]; exact cnt_step1 hx0_4 c_3) hv hP hS (lv_sub hl [0, 1, 2] rfl)
      · have hv := hv.trans (if_neg c_1)
        have hc_1 : ¬ i < 8 := fun h => c_1 (nI_lt h (by decide))
        refine lv_iload_n hx hb dX6_surviving_33 rfl (lv_at hl 1 rfl) ?_
        exact W.iret (v := y1_4) hx hb hr (fun t ht hW => ⟨⟨_, M, rfl, ⟨hv.symm.trans eV, rfl, (by have e8 : i = 8 := (by omega); subst e8; exact hx0_4)⟩, by rw [ht]; exact hP, va_K.moved hW.alike hK⟩, hS.F ht⟩) hS.2.2 dX6_surviving_34
  exact L4 (8 + 1 - 0) 0 (0 : Int32) _ _ _ (by omega) (by omega) (rfl) hv hP hS (lv_sub hl [0, 1, 2] rfl)
def f_X6_spread_L5 (M : Mem) (j0 : Nat) : Nat → Nat → Int64 → Int64
  | 0, _, _ => 0
  | r + 1, i, y2_5 => if nI i < (8 : Int32) then if gB M 7 (i) = (0 : Int32) then bnd ((y2_5 + (0 : Int64))) fun x_4 => f_X6_spread_L5 M j0 r (i + 1) x_4 else if nI i = nI j0 then bnd ((y2_5 + (0 : Int64))) fun x_6 => f_X6_spread_L5 M j0 r (i + 1) x_6 else bnd (f_X6_best M  (i)) fun r_7 => bnd (f_X6_best M  (j0)) fun r_8 => bnd ((f_X6_size (gJ M 0 (r_7).toNatClampNeg - gJ M 0 (r_8).toNatClampNeg))) fun x_9 => bnd ((y2_5 + x_9)) fun x_10 => f_X6_spread_L5 M j0 r (i + 1) x_10 else bnd (f_X6_surviving M  ) fun r_11 => (y2_5 / ((r_11).toInt64 - (1 : Int64)))
def f_X6_spread (M : Mem) (j0 : Nat) : Int64 := f_X6_spread_L5 M j0 (8 + 1 - 0) 0 (0 : Int64)
theorem hyX6_spread : yX6_spread.cls ≠ "java/lang/invoke/MethodHandle" ∧ yX6_spread.cls ≠ "java/lang/invoke/VarHandle" ∧ (parseMethodDescriptor yX6_spread.desc).map (fun d => d.parameters.length) = some 1 := by decide +kernel
set_option maxHeartbeats 4000000 in
set_option maxRecDepth 100000 in
theorem c_X6_spread (l : Launch) (dC : Nat → ClassId) (dI : Nat → Nat → Nat) (cA : Nat → ClassId) (ad : Nat → Nat) (hI : Inj 12 ad) (M : Mem) (j0 : Nat) (hj0 : j0 < 8) (hw0 : WFm M) (hn : ¬ (f_X6_surviving M).toInt64 - 1 = 0) : Met l yX6_spread (.code yX6_spread cX6_spread 5 (some .long) :: AG) ({ frames := 1, cells := 0, slots := 0, locals := 23 } : Room) (va_Pc [.ref (ad (0)), .int (nI j0)] (PM dC dI cA ad M)) (va_Ql (fun r u => r = f_X6_spread M j0 ∧ u = M) (PM dC dI cA ad) (adS 12 ad)) 0 0 (adS 12 ad) := by
  refine cMet (by decide) (Nat.le_of_ble_eq_true rfl) ?_
  intro p e s m below meth c ls hx hb hr hml hlocks hown hts hK hP hS hl
  have hA : ∀ q, adS 12 ad q → adS 12 ad q := fun _ h => h
  have hl : lv_has ls 5 [(0, .ref (ad (0))), (1, .int (nI j0))] := hl
  obtain ⟨V, eV⟩ : ∃ z, z = f_X6_spread M j0 := ⟨_, rfl⟩
  have hv := eV
  unfold f_X6_spread at hv
  refine lv_lconst (v := 0) hx hb dX6_spread_0 (by decide) ?_
  refine lv_lstore_n (lv' := [(2, .long (0 : Int64)), (0, .ref (ad (0))), (1, .int (nI j0))]) hx hb dX6_spread_1 rfl hl (by decide) rfl (fun ls hl => ?_)
  refine lv_iconst (v := 0) hx hb dX6_spread_2 (by decide) ?_
  refine lv_istore (lv' := [(4, .int (0 : Int32)), (2, .long (0 : Int64)), (0, .ref (ad (0))), (1, .int (nI j0))]) hx hb dX6_spread_3 hl (by decide) rfl (fun ls hl => ?_)
  have L5 : ∀ (r i : Nat) (y2_5 : Int64) (H : Heap) (locs : List Loc) (ls : Array Slot), i + r = 8 + 1 → i ≤ 8 → V = f_X6_spread_L5 M j0 r i y2_5 → va_P (dC, dI) vwCl (wld 12 layM cA ad M) H → va_S (adS 12 ad) s.heap H locs → lv_has ls 5 [(4, .int (nI i)), (2, .long y2_5), (0, .ref (ad (0))), (1, .int (nI j0))] → W p l e ({ frames := 1, cells := 0, slots := 0, locals := 23 } : Room) s m ([.ref (ad (0)), .int (nI j0)] : List Value).toArray below meth c H locs 0 0 (MQ below (va_Ql (fun r u => r = f_X6_spread M j0 ∧ u = M) (PM dC dI cA ad) (adS 12 ad)) ([.ref (ad (0)), .int (nI j0)] : List Value).toArray s 0 0 (adS 12 ad)) (F0 m 5 ls []) := by
    intro r
    induction r with
    | zero =>
      intro i y2_5 H locs ls hir hib
      omega
    | succ r ih =>
      intro i y2_5 H locs ls hir hib hv hP hS hl
      rw [f_X6_spread_L5] at hv
      refine lv_iload hx hb dX6_spread_5 (lv_at hl 0 rfl) ?_
      refine lv_bipush (v := 8) hx hb dX6_spread_7 (by decide) ?_
      refine jI_ge (tgt := 66) hx hb dX6_spread_9 (by decide) (fun c_1 => ?_) (fun c_1 => ?_)
      · have hv := hv.trans (if_pos c_1)
        have hc_1 : i < 8 := nI_lt8 (n := 8) c_1 (by omega) (by decide)
        refine lv_lload_n hx hb dX6_spread_12 rfl (lv_at hl 1 rfl) ?_
        refine lv_aload_n hx hb dX6_spread_13 rfl (lv_at hl 2 rfl) ?_
        refine fg_X6_46 hx hb hts hK hP hown dX6_spread_14 ?_
        refine lv_iload hx hb dX6_spread_17 (lv_at hl 0 rfl) ?_
        refine w_zaldN hx hb hK hP (k := 11) (by decide) lyM11 (i := i) (by omega) (by decide) dX6_spread_19 ?_
        have bo_2 := hw0.2.2.2 (i) (by omega)
        refine j0_eq (tgt := 57) hx hb dX6_spread_20 (by decide) (fun c_3 => ?_) (fun c_3 => ?_)
        · have hv := hv.trans (if_pos c_3)
          refine lv_lconst (v := 0) hx hb dX6_spread_57 (by decide) ?_
          refine lv_ladd hx hb dX6_spread_58 ?_
          refine lv_topl (fun x_4 ex_4 => ?_)
          have hv := bnd_name hv ex_4
          refine lv_lstore_n (lv' := [(2, .long x_4), (4, .int (nI i)), (0, .ref (ad (0))), (1, .int (nI j0))]) hx hb dX6_spread_59 rfl hl (by decide) rfl (fun ls hl => ?_)
          refine lv_iinc (v := nI (i + 1)) (lv' := [(4, .int (nI (i + 1))), (2, .long x_4), (0, .ref (ad (0))), (1, .int (nI j0))]) hx hb dX6_spread_60 hl (k := 1) rfl (show nI (i) + 1 = nI (i + 1) from nI_1 _) (by decide) rfl (fun ls hl => ?_)
          refine lv_goto (tgt := 5) hx hb dX6_spread_63 (by decide) ?_
          exact ih (i + 1) x_4 _ _ _ (by omega) (by omega)  hv hP hS (lv_sub hl [0, 1, 2, 3] rfl)
        · have hv := hv.trans (if_neg c_3)
          refine lv_iload hx hb dX6_spread_23 (lv_at hl 0 rfl) ?_
          refine lv_iload_n hx hb dX6_spread_25 rfl (lv_at hl 3 rfl) ?_
          refine jI_eq (tgt := 57) hx hb dX6_spread_26 (by decide) (fun c_5 => ?_) (fun c_5 => ?_)
          · have hv := hv.trans (if_pos c_5)
            refine lv_lconst (v := 0) hx hb dX6_spread_57 (by decide) ?_
            refine lv_ladd hx hb dX6_spread_58 ?_
            refine lv_topl (fun x_6 ex_6 => ?_)
            have hv := bnd_name hv ex_6
            refine lv_lstore_n (lv' := [(2, .long x_6), (4, .int (nI i)), (0, .ref (ad (0))), (1, .int (nI j0))]) hx hb dX6_spread_59 rfl hl (by decide) rfl (fun ls hl => ?_)
            refine lv_iinc (v := nI (i + 1)) (lv' := [(4, .int (nI (i + 1))), (2, .long x_6), (0, .ref (ad (0))), (1, .int (nI j0))]) hx hb dX6_spread_60 hl (k := 1) rfl (show nI (i) + 1 = nI (i + 1) from nI_1 _) (by decide) rfl (fun ls hl => ?_)
            refine lv_goto (tgt := 5) hx hb dX6_spread_63 (by decide) ?_
            exact ih (i + 1) x_6 _ _ _ (by omega) (by omega)  hv hP hS (lv_sub hl [0, 1, 2, 3] rfl)
          · have hv := hv.trans (if_neg c_5)
            have hc_5 : ¬ i = j0 := fun h => c_5 (by rw [h])
            refine lv_aload_n hx hb dX6_spread_29 rfl (lv_at hl 2 rfl) ?_
            refine fg_X6_32 hx hb hts hK hP hown dX6_spread_30 ?_
            refine lv_aload_n hx hb dX6_spread_33 rfl (lv_at hl 2 rfl) ?_
            refine lv_iload hx hb dX6_spread_34 (lv_at hl 0 rfl) ?_
            refine kVi hx hb hml hown hts hK hP hS hA (As := [.int (nI i)]) (rest := [.ref (ad (7)), .long y2_5]) (c_X6_best l dC dI cA ad hI M  (i) (by omega) hw0 ) (mkV hts q_1025 q_53 q_1022 q_1024 q_32 hyX6_best rfl rfl ⟨(Nat.le_of_ble_eq_true rfl), (Nat.le_of_ble_eq_true rfl)⟩) (w_recv hK hP (k := 0) (by decide) lyM0 (q := (RX6, TX6, 26)) rfl) rfl hl.1 rfl (Nat.le_of_ble_eq_true rfl) dX6_spread_36 ⟨(Nat.le_of_ble_eq_true rfl), (Nat.le_of_ble_eq_true rfl)⟩ (fun r u H locs hw hP hS _ _ => ?_)
            obtain ⟨hw, hu, hxp⟩ := hw
            rw [hu] at hP
            have hv := bnd_name hv hw
            obtain ⟨r_7, er_7⟩ : ∃ z, z = r := ⟨_, rfl⟩
            rw [← er_7] at hv hw hxp
            refine w_eqi er_7.symm ?_
            have gr_7 := hw
            have pr_7 := hxp
            have hin := pr_7
            refine w_lald hx hb hK hP (k := 7) (by decide) lyM7 hin dX6_spread_39 ?_
            refine lv_aload_n hx hb dX6_spread_40 rfl (lv_at hl 2 rfl) ?_
            refine fg_X6_32 hx hb hts hK hP hown dX6_spread_41 ?_
            refine lv_aload_n hx hb dX6_spread_44 rfl (lv_at hl 2 rfl) ?_
            refine lv_iload_n hx hb dX6_spread_45 rfl (lv_at hl 3 rfl) ?_
            refine kVi hx hb hml hown hts hK hP hS hA (As := [.int (nI j0)]) (rest := [.ref (ad (7)), .long (gJ M 0 (r_7).toNatClampNeg), .long y2_5]) (c_X6_best l dC dI cA ad hI M  (j0) (by omega) hw0 ) (mkV hts q_1025 q_53 q_1022 q_1024 q_32 hyX6_best rfl rfl ⟨(Nat.le_of_ble_eq_true rfl), (Nat.le_of_ble_eq_true rfl)⟩) (w_recv hK hP (k := 0) (by decide) lyM0 (q := (RX6, TX6, 26)) rfl) rfl hl.1 rfl (Nat.le_of_ble_eq_true rfl) dX6_spread_46 ⟨(Nat.le_of_ble_eq_true rfl), (Nat.le_of_ble_eq_true rfl)⟩ (fun r u H locs hw hP hS _ _ => ?_)
            obtain ⟨hw, hu, hxp⟩ := hw
            rw [hu] at hP
            have hv := bnd_name hv hw
            obtain ⟨r_8, er_8⟩ : ∃ z, z = r := ⟨_, rfl⟩
            rw [← er_8] at hv hw hxp
            refine w_eqi er_8.symm ?_
            have gr_8 := hw
            have pr_8 := hxp
            have hin := pr_8
            refine w_lald hx hb hK hP (k := 7) (by decide) lyM7 hin dX6_spread_49 ?_
            refine lv_lsub hx hb dX6_spread_50 ?_
            refine kSl hx hb hml hown hts (As := [.long (gJ M 0 (r_7).toNatClampNeg - gJ M 0 (r_8).toNatClampNeg)]) (rest := [.long y2_5]) (c_X6_size l (gJ M 0 (r_7).toNatClampNeg - gJ M 0 (r_8).toNatClampNeg) ) (mkS hts q_1040 q_53 q_1038 q_1039 hyX6_size rfl rfl ⟨(Nat.le_of_ble_eq_true rfl), (Nat.le_of_ble_eq_true rfl)⟩) rfl hl.1 rfl (Nat.le_of_ble_eq_true rfl) dX6_spread_51 ⟨(Nat.le_of_ble_eq_true rfl), (Nat.le_of_ble_eq_true rfl)⟩ ?_
            refine lv_topl (fun x_9 ex_9 => ?_)
            have hv := bnd_name hv ex_9
            refine lv_goto (tgt := 58) hx hb dX6_spread_54 (by decide) ?_
            refine lv_ladd hx hb dX6_spread_58 ?_
            refine lv_topl (fun x_10 ex_10 => ?_)
            have hv := bnd_name hv ex_10
            refine lv_lstore_n (lv' := [(2, .long x_10), (4, .int (nI i)), (0, .ref (ad (0))), (1, .int (nI j0))]) hx hb dX6_spread_59 rfl hl (by decide) rfl (fun ls hl => ?_)
            refine lv_iinc (v := nI (i + 1)) (lv' := [(4, .int (nI (i + 1))), (2, .long x_10), (0, .ref (ad (0))), (1, .int (nI j0))]) hx hb dX6_spread_60 hl (k := 1) rfl (show nI (i) + 1 = nI (i + 1) from nI_1 _) (by decide) rfl (fun ls hl => ?_)
            refine lv_goto (tgt := 5) hx hb dX6_spread_63 (by decide) ?_
            exact ih (i + 1) x_10 _ _ _ (by omega) (by omega)  hv hP hS (lv_sub hl [0, 1, 2, 3] rfl)
      · have hv := hv.trans (if_neg c_1)
        have hc_1 : ¬ i < 8 := fun h => c_1 (nI_lt h (by decide))
        refine lv_lload_n hx hb dX6_spread_66 rfl (lv_at hl 1 rfl) ?_
        refine lv_aload_n hx hb dX6_spread_67 rfl (lv_at hl 2 rfl) ?_
        refine kVi hx hb hml hown hts hK hP hS hA (As := []) (rest := [.long y2_5]) (c_X6_surviving l dC dI cA ad hI M   hw0 ) (mkV hts q_1104 q_53 q_1101 q_1103 q_41 hyX6_surviving rfl rfl ⟨(Nat.le_of_ble_eq_true rfl), (Nat.le_of_ble_eq_true rfl)⟩) (w_recv hK hP (k := 0) (by decide) lyM0 (q := (RX6, TX6, 26)) rfl) rfl hl.1 rfl (Nat.le_of_ble_eq_true rfl) dX6_spread_68 ⟨(Nat.le_of_ble_eq_true rfl), (Nat.le_of_ble_eq_true rfl)⟩ (fun r u H locs hw hP hS _ _ => ?_)
        obtain ⟨hw, hu, hxp⟩ := hw
        rw [hu] at hP
        have hv := bnd_name hv hw
        obtain ⟨r_11, er_11⟩ : ∃ z, z = r := ⟨_, rfl⟩
        rw [← er_11] at hv hw hxp
        refine w_eqi er_11.symm ?_
        have gr_11 := hw
        have pr_11 := hxp
        refine lv_i2l (v := (r_11).toInt64) hx hb dX6_spread_71 rfl ?_
        refine lv_lconst (v := 1) hx hb dX6_spread_72 (by decide) ?_
        refine lv_lsub hx hb dX6_spread_73 ?_
        refine lv_ldiv hx hb dX6_spread_74 (by rw [gr_11]; exact hn) ?_
        exact W.lret (v := (y2_5 / ((r_11).toInt64 - (1 : Int64)))) hx hb hr (fun t ht hW => ⟨⟨_, M, rfl, ⟨hv.symm.trans eV, rfl⟩, by rw [ht]; exact hP, va_K.moved hW.alike hK⟩, hS.F ht⟩) hS.2.2 dX6_spread_75
  exact L5 (8 + 1 - 0) 0 (0 : Int64) _ _ _ (by omega) (by omega)  hv hP hS (lv_sub hl [0, 1, 2, 3] rfl)
def f_X6_removes_L10 (M : Mem)  : Nat → Nat → Int32 → Int64 → Int32 → Int32 × Mem
  | 0, _, _, _, _ => (0, M)
  | r + 1, i, y4_10, y2_10, y1_10 => if nI i < (8 : Int32) then if gB M 7 (i) = (0 : Int32) then f_X6_removes_L10 M  r (i + 1) y4_10 y2_10 y1_10 else if y1_10 = ((-1) : Int32) then if y4_10 = (0 : Int32) then bnd (f_X6_jitterOf M  (i)) fun r_6 => if r_6 < y2_10 then bnd (f_X6_jitterOf M  (i)) fun r_8 => f_X6_removes_L10 M  r (i + 1) (0 : Int32) r_8 (nI i) else f_X6_removes_L10 M  r (i + 1) (0 : Int32) y2_10 (nI i) else bnd (f_X6_jitterOf M  (i)) fun r_9 => f_X6_removes_L10 M  r (i + 1) (0 : Int32) r_9 (nI i) else bnd (f_X6_spread M  (i)) fun r_10 => bnd (f_X6_spread M  ((y1_10).toNatClampNeg)) fun r_11 => if r_10 < r_11 then if y4_10 = (0 : Int32) then bnd (f_X6_jitterOf M  (i)) fun r_14 => if r_14 < y2_10 then bnd (f_X6_jitterOf M  (i)) fun r_16 => f_X6_removes_L10 M  r (i + 1) (0 : Int32) r_16 y1_10 else f_X6_removes_L10 M  r (i + 1) (0 : Int32) y2_10 y1_10 else bnd (f_X6_jitterOf M  (i)) fun r_17 => f_X6_removes_L10 M  r (i + 1) (0 : Int32) r_17 y1_10 else if y4_10 = (0 : Int32) then bnd (f_X6_jitterOf M  (i)) fun r_19 => if r_19 < y2_10 then bnd (f_X6_jitterOf M  (i)) fun r_21 => f_X6_removes_L10 M  r (i + 1) (0 : Int32) r_21 (nI i) else f_X6_removes_L10 M  r (i + 1) (0 : Int32) y2_10 (nI i) else bnd (f_X6_jitterOf M  (i)) fun r_22 => f_X6_removes_L10 M  r (i + 1) (0 : Int32) r_22 (nI i) else bnd (f_X6_spread M  ((y1_10).toNatClampNeg)) fun r_23 => if y2_10 < r_23 then bnd (sB M 7 (upd (gB M 7) (y1_10).toNatClampNeg (0 : Int32))) fun M_26 => ((1 : Int32), M_26) else ((0 : Int32), M)
def f_X6_removes (M : Mem)  : Int32 × Mem := f_X6_removes_L10 M  (8 + 1 - 0) 0 (1 : Int32) (0 : Int64) ((-1) : Int32)
theorem hyX6_removes : yX6_removes.cls ≠ "java/lang/invoke/MethodHandle" ∧ yX6_removes.cls ≠ "java/lang/invoke/VarHandle" ∧ (parseMethodDescriptor yX6_removes.desc).map (fun d => d.parameters.length) = some 0 := by decide +kernel
set_option maxHeartbeats 4000000 in
set_option maxRecDepth 100000 in
theorem c_X6_removes (l : Launch) (dC : Nat → ClassId) (dI : Nat → Nat → Nat) (cA : Nat → ClassId) (ad : Nat → Nat) (hI : Inj 12 ad) (M : Mem) (hw0 : WFm M) (hs : ∃ j, j < 8 ∧ ¬ gB M 7 j = 0) (hn : ¬ (f_X6_surviving M).toInt64 - 1 = 0) : Met l yX6_removes (.code yX6_removes cX6_removes 6 (some .boolean) :: AG) ({ frames := 2, cells := 0, slots := 0, locals := 47 } : Room) (va_Pc [.ref (ad (0))] (PM dC dI cA ad M)) (va_Qi (fun r u => (r, u) = f_X6_removes M  ∧ WFm u ∧ (¬ r = 0 → cnt7 u + 1 ≤ cnt7 M)) (PM dC dI cA ad) (adS 12 ad)) 0 0 (adS 12 ad) := by
  refine cMet (by decide) (Nat.le_of_ble_eq_true rfl) ?_
  intro p e s m below meth c ls hx hb hr hml hlocks hown hts hK hP hS hl
  have hA : ∀ q, adS 12 ad q → adS 12 ad q := fun _ h => h
  have hl : lv_has ls 6 [(0, .ref (ad (0)))] := hl
  obtain ⟨V, eV⟩ : ∃ z, z = f_X6_removes M  := ⟨_, rfl⟩
  have hv := eV
  unfold f_X6_removes at hv
  refine lv_iconst (v := (-1)) hx hb dX6_removes_0 (by decide) ?_
  refine lv_istore_n (lv' := [(1, .int ((-1) : Int32)), (0, .ref (ad (0)))]) hx hb dX6_removes_1 rfl hl (by decide) rfl (fun ls hl => ?_)
  refine lv_lconst (v := 0) hx hb dX6_removes_2 (by decide) ?_
  refine lv_lstore_n (lv' := [(2, .long (0 : Int64)), (1, .int ((-1) : Int32)), (0, .ref (ad (0)))]) hx hb dX6_removes_3 rfl hl (by decide) rfl (fun ls hl => ?_)
  refine lv_iconst (v := 1) hx hb dX6_removes_4 (by decide) ?_
  refine lv_istore (lv' := [(4, .int (1 : Int32)), (2, .long (0 : Int64)), (1, .int ((-1) : Int32)), (0, .ref (ad (0)))]) hx hb dX6_removes_5 hl (by decide) rfl (fun ls hl => ?_)
  refine lv_iconst (v := 0) hx hb dX6_removes_7 (by decide) ?_
  refine lv_istore (lv' := [(5, .int (0 : Int32)), (4, .int (1 : Int32)), (2, .long (0 : Int64)), (1, .int ((-1) : Int32)), (0, .ref (ad (0)))]) hx hb dX6_removes_8 hl (by decide) rfl (fun ls hl => ?_)
  have L10 : ∀ (r i : Nat) (y4_10 : Int32) (y2_10 : Int64) (y1_10 : Int32) (H : Heap) (locs : List Loc) (ls : Array Slot), i + r = 8 + 1 → i ≤ 8 → ((y1_10 = -1 ∧ ∀ j, j < i → gB M 7 j = 0) ∨ (vp_in y1_10 8 ∧ ¬ gB M 7 y1_10.toNatClampNeg = 0)) → V = f_X6_removes_L10 M  r i y4_10 y2_10 y1_10 → va_P (dC, dI) vwCl (wld 12 layM cA ad M) H → va_S (adS 12 ad) s.heap H locs → lv_has ls 6 [(5, .int (nI i)), (4, .int y4_10), (2, .long y2_10), (1, .int y1_10), (0, .ref (ad (0)))] → W p l e ({ frames := 2, cells := 0, slots := 0, locals := 47 } : Room) s m ([.ref (ad (0))] : List Value).toArray below meth c H locs 0 0 (MQ below (va_Qi (fun r u => (r, u) = f_X6_removes M  ∧ WFm u ∧ (¬ r = 0 → cnt7 u + 1 ≤ cnt7 M)) (PM dC dI cA ad) (adS 12 ad)) ([.ref (ad (0))] : List Value).toArray s 0 0 (adS 12 ad)) (F0 m 10 ls []) := by
    intro r
    induction r with
    | zero =>
      intro i y4_10 y2_10 y1_10 H locs ls hir hib
      omega
    | succ r ih =>
      intro i y4_10 y2_10 y1_10 H locs ls hir hib hx0_10 hv hP hS hl
      rw [f_X6_removes_L10] at hv
      refine lv_iload hx hb dX6_removes_10 (lv_at hl 0 rfl) ?_
      refine lv_bipush (v := 8) hx hb dX6_removes_12 (by decide) ?_
      refine jI_ge (tgt := 90) hx hb dX6_removes_14 (by decide) (fun c_1 => ?_) (fun c_1 => ?_)
      · have hv := hv.trans (if_pos c_1)
        have hc_1 : i < 8 := nI_lt8 (n := 8) c_1 (by omega) (by decide)
        refine lv_aload_n hx hb dX6_removes_17 rfl (lv_at hl 4 rfl) ?_
        refine fg_X6_46 hx hb hts hK hP hown dX6_removes_18 ?_
        refine lv_iload hx hb dX6_removes_21 (lv_at hl 0 rfl) ?_
        refine w_zaldN hx hb hK hP (k := 11) (by decide) lyM11 (i := i) (by omega) (by decide) dX6_removes_23 ?_
        have bo_2 := hw0.2.2.2 (i) (by omega)
        refine j0_eq (tgt := 84) hx hb dX6_removes_24 (by decide) (fun c_3 => ?_) (fun c_3 => ?_)
        · have hv := hv.trans (if_pos c_3)
          refine lv_iinc (v := nI (i + 1)) (lv' := [(5, .int (nI (i + 1))), (4, .int y4_10), (2, .long y2_10), (1, .int y1_10), (0, .ref (ad (0)))]) hx hb dX6_removes_84 hl (k := 0) rfl (show nI (i) + 1 = nI (i + 1) from nI_1 _) (by decide) rfl (fun ls hl => ?_)
          refine lv_goto (tgt := 10) hx hb dX6_removes_87 (by decide) ?_
          exact ih (i + 1) y4_10 y2_10 y1_10 _ _ _ (by omega) (by omega) (hx0_10.elim (fun h => Or.inl ⟨h.1, fun j hj => (Nat.lt_succ_iff_lt_or_eq.mp hj).elim (h.2 j) (fun e => e ▸ c_3)⟩) Or.inr) hv hP hS (lv_sub hl [0, 1, 2, 3, 4] rfl)
        · have hv := hv.trans (if_neg c_3)
          refine lv_iload_n hx hb dX6_removes_27 rfl (lv_at hl 3 rfl) ?_
          refine lv_iconst (v := (-1)) hx hb dX6_removes_28 (by decide) ?_
          refine jI_eq (tgt := 47) hx hb dX6_removes_29 (by decide) (fun c_4 => ?_) (fun c_4 => ?_)
          · have hv := hv.trans (if_pos c_4)
            refine lv_iload hx hb dX6_removes_47 (lv_at hl 0 rfl) ?_
            refine lv_goto (tgt := 53) hx hb dX6_removes_49 (by decide) ?_
            refine lv_istore_n (lv' := [(1, .int (nI i)), (5, .int (nI i)), (4, .int y4_10), (2, .long y2_10), (0, .ref (ad (0)))]) hx hb dX6_removes_53 rfl hl (by decide) rfl (fun ls hl => ?_)
            refine lv_iload hx hb dX6_removes_54 (lv_at hl 2 rfl) ?_
            refine j0_ne (tgt := 70) hx hb dX6_removes_56 (by decide) (fun c_5 => ?_) (fun c_5 => ?_)
            · have hv := hv.trans (if_pos c_5)
              refine lv_aload_n hx hb dX6_removes_59 rfl (lv_at hl 4 rfl) ?_
              refine lv_iload hx hb dX6_removes_60 (lv_at hl 1 rfl) ?_
              refine kVl hx hb hml hown hts hK hP hS hA (As := [.int (nI i)]) (rest := []) (c_X6_jitterOf l dC dI cA ad hI M  (i) (by omega) hw0 ) (mkV hts q_1037 q_53 q_1034 q_1036 q_33 hyX6_jitterOf rfl rfl ⟨(Nat.le_of_ble_eq_true rfl), (Nat.le_of_ble_eq_true rfl)⟩) (w_recv hK hP (k := 0) (by decide) lyM0 (q := (RX6, TX6, 26)) rfl) rfl hl.1 rfl (Nat.le_of_ble_eq_true rfl) dX6_removes_62 ⟨(Nat.le_of_ble_eq_true rfl), (Nat.le_of_ble_eq_true rfl)⟩ (fun r u H locs hw hP hS _ _ => ?_)
              obtain ⟨hw, hu⟩ := hw
              rw [hu] at hP
              have hv := bnd_name hv hw
              obtain ⟨r_6, er_6⟩ : ∃ z, z = r := ⟨_, rfl⟩
              rw [← er_6] at hv hw
              refine w_eql er_6.symm ?_
              have gr_6 := hw
              refine lv_lload_n hx hb dX6_removes_65 rfl (lv_at hl 3 rfl) ?_
              refine jL_ge (tgt := 79) hx hb dX6_removes_66 dX6_removes_67 (by decide) (fun c_7 => ?_) (fun c_7 => ?_)
              · have hv := hv.trans (if_pos c_7)
                refine lv_aload_n hx hb dX6_removes_70 rfl (lv_at hl 4 rfl) ?_
                refine lv_iload hx hb dX6_removes_71 (lv_at hl 1 rfl) ?_
                refine kVl hx hb hml hown hts hK hP hS hA (As := [.int (nI i)]) (rest := []) (c_X6_jitterOf l dC dI cA ad hI M  (i) (by omega) hw0 ) (mkV hts q_1037 q_53 q_1034 q_1036 q_33 hyX6_jitterOf rfl rfl ⟨(Nat.le_of_ble_eq_true rfl), (Nat.le_of_ble_eq_true rfl)⟩) (w_recv hK hP (k := 0) (by decide) lyM0 (q := (RX6, TX6, 26)) rfl) rfl hl.1 rfl (Nat.le_of_ble_eq_true rfl) dX6_removes_73 ⟨(Nat.le_of_ble_eq_true rfl), (Nat.le_of_ble_eq_true rfl)⟩ (fun r u H locs hw hP hS _ _ => ?_)
                obtain ⟨hw, hu⟩ := hw
                rw [hu] at hP
                have hv := bnd_name hv hw
                obtain ⟨r_8, er_8⟩ : ∃ z, z = r := ⟨_, rfl⟩
                rw [← er_8] at hv hw
                refine w_eql er_8.symm ?_
                have gr_8 := hw
                refine lv_goto (tgt := 80) hx hb dX6_removes_76 (by decide) ?_
                refine lv_lstore_n (lv' := [(2, .long r_8), (1, .int (nI i)), (5, .int (nI i)), (4, .int y4_10), (0, .ref (ad (0)))]) hx hb dX6_removes_80 rfl hl (by decide) rfl (fun ls hl => ?_)
                refine lv_iconst (v := 0) hx hb dX6_removes_81 (by decide) ?_
                refine lv_istore (lv' := [(4, .int (0 : Int32)), (2, .long r_8), (1, .int (nI i)), (5, .int (nI i)), (0, .ref (ad (0)))]) hx hb dX6_removes_82 hl (by decide) rfl (fun ls hl => ?_)
                refine lv_iinc (v := nI (i + 1)) (lv' := [(5, .int (nI (i + 1))), (4, .int (0 : Int32)), (2, .long r_8), (1, .int (nI i)), (0, .ref (ad (0)))]) hx hb dX6_removes_84 hl (k := 3) rfl (show nI (i) + 1 = nI (i + 1) from nI_1 _) (by decide) rfl (fun ls hl => ?_)
                refine lv_goto (tgt := 10) hx hb dX6_removes_87 (by decide) ?_
                exact ih (i + 1) (0 : Int32) r_8 (nI i) _ _ _ (by omega) (by omega) (Or.inr ⟨vp_in_nI (by omega) (by decide), by rw [nI_clamp (by omega)]; exact c_3⟩) hv hP hS (lv_sub hl [0, 1, 2, 3, 4] rfl)
              · have hv := hv.trans (if_neg c_7)
                refine lv_lload_n hx hb dX6_removes_79 rfl (lv_at hl 3 rfl) ?_
                refine lv_lstore_n (lv' := [(2, .long y2_10), (1, .int (nI i)), (5, .int (nI i)), (4, .int y4_10), (0, .ref (ad (0)))]) hx hb dX6_removes_80 rfl hl (by decide) rfl (fun ls hl => ?_)
                refine lv_iconst (v := 0) hx hb dX6_removes_81 (by decide) ?_
                refine lv_istore (lv' := [(4, .int (0 : Int32)), (2, .long y2_10), (1, .int (nI i)), (5, .int (nI i)), (0, .ref (ad (0)))]) hx hb dX6_removes_82 hl (by decide) rfl (fun ls hl => ?_)
                refine lv_iinc (v := nI (i + 1)) (lv' := [(5, .int (nI (i + 1))), (4, .int (0 : Int32)), (2, .long y2_10), (1, .int (nI i)), (0, .ref (ad (0)))]) hx hb dX6_removes_84 hl (k := 3) rfl (show nI (i) + 1 = nI (i + 1) from nI_1 _) (by decide) rfl (fun ls hl => ?_)
                refine lv_goto (tgt := 10) hx hb dX6_removes_87 (by decide) ?_
                exact ih (i + 1) (0 : Int32) y2_10 (nI i) _ _ _ (by omega) (by omega) (Or.inr ⟨vp_in_nI (by omega) (by decide), by rw [nI_clamp (by omega)]; exact c_3⟩) hv hP hS (lv_sub hl [0, 1, 2, 3, 4] rfl)
            · have hv := hv.trans (if_neg c_5)
              refine lv_aload_n hx hb dX6_removes_70 rfl (lv_at hl 4 rfl) ?_
              refine lv_iload hx hb dX6_removes_71 (lv_at hl 1 rfl) ?_
              refine kVl hx hb hml hown hts hK hP hS hA (As := [.int (nI i)]) (rest := []) (c_X6_jitterOf l dC dI cA ad hI M  (i) (by omega) hw0 ) (mkV hts q_1037 q_53 q_1034 q_1036 q_33 hyX6_jitterOf rfl rfl ⟨(Nat.le_of_ble_eq_true rfl), (Nat.le_of_ble_eq_true rfl)⟩) (w_recv hK hP (k := 0) (by decide) lyM0 (q := (RX6, TX6, 26)) rfl) rfl hl.1 rfl (Nat.le_of_ble_eq_true rfl) dX6_removes_73 ⟨(Nat.le_of_ble_eq_true rfl), (Nat.le_of_ble_eq_true rfl)⟩ (fun r u H locs hw hP hS _ _ => ?_)
              obtain ⟨hw, hu⟩ := hw
              rw [hu] at hP
              have hv := bnd_name hv hw
              obtain ⟨r_9, er_9⟩ : ∃ z, z = r := ⟨_, rfl⟩
              rw [← er_9] at hv hw
              refine w_eql er_9.symm ?_
              have gr_9 := hw
              refine lv_goto (tgt := 80) hx hb dX6_removes_76 (by decide) ?_
              refine lv_lstore_n (lv' := [(2, .long r_9), (1, .int (nI i)), (5, .int (nI i)), (4, .int y4_10), (0, .ref (ad (0)))]) hx hb dX6_removes_80 rfl hl (by decide) rfl (fun ls hl => ?_)
              refine lv_iconst (v := 0) hx hb dX6_removes_81 (by decide) ?_
              refine lv_istore (lv' := [(4, .int (0 : Int32)), (2, .long r_9), (1, .int (nI i)), (5, .int (nI i)), (0, .ref (ad (0)))]) hx hb dX6_removes_82 hl (by decide) rfl (fun ls hl => ?_)
              refine lv_iinc (v := nI (i + 1)) (lv' := [(5, .int (nI (i + 1))), (4, .int (0 : Int32)), (2, .long r_9), (1, .int (nI i)), (0, .ref (ad (0)))]) hx hb dX6_removes_84 hl (k := 3) rfl (show nI (i) + 1 = nI (i + 1) from nI_1 _) (by decide) rfl (fun ls hl => ?_)
              refine lv_goto (tgt := 10) hx hb dX6_removes_87 (by decide) ?_
              exact ih (i + 1) (0 : Int32) r_9 (nI i) _ _ _ (by omega) (by omega) (Or.inr ⟨vp_in_nI (by omega) (by decide), by rw [nI_clamp (by omega)]; exact c_3⟩) hv hP hS (lv_sub hl [0, 1, 2, 3, 4] rfl)
          · have hv := hv.trans (if_neg c_4)
            refine lv_aload_n hx hb dX6_removes_32 rfl (lv_at hl 4 rfl) ?_
            refine lv_iload hx hb dX6_removes_33 (lv_at hl 0 rfl) ?_
            refine kVl hx hb hml hown hts hK hP hS hA (As := [.int (nI i)]) (rest := []) (c_X6_spread l dC dI cA ad hI M  (i) (by omega) hw0 hn) (mkV hts q_1112 q_53 q_1109 q_1111 q_43 hyX6_spread rfl rfl ⟨(Nat.le_of_ble_eq_true rfl), (Nat.le_of_ble_eq_true rfl)⟩) (w_recv hK hP (k := 0) (by decide) lyM0 (q := (RX6, TX6, 26)) rfl) rfl hl.1 rfl (Nat.le_of_ble_eq_true rfl) dX6_removes_35 ⟨(Nat.le_of_ble_eq_true rfl), (Nat.le_of_ble_eq_true rfl)⟩ (fun r u H locs hw hP hS _ _ => ?_)
            obtain ⟨hw, hu⟩ := hw
            rw [hu] at hP
            have hv := bnd_name hv hw
            obtain ⟨r_10, er_10⟩ : ∃ z, z = r := ⟨_, rfl⟩
            rw [← er_10] at hv hw
            refine w_eql er_10.symm ?_
            have gr_10 := hw
            refine lv_aload_n hx hb dX6_removes_38 rfl (lv_at hl 4 rfl) ?_
            refine lv_iload_n hx hb dX6_removes_39 rfl (lv_at hl 3 rfl) ?_
            have hin := (hx0_10.resolve_left (fun h => c_4 h.1)).1
            have hin8 := vp_lt hin
            refine w_eqi (y := nI ((y1_10).toNatClampNeg)) (nI_of_vp hin (by decide)) ?_
            refine kVl hx hb hml hown hts hK hP hS hA (As := [.int (nI ((y1_10).toNatClampNeg))]) (rest := [.long r_10]) (c_X6_spread l dC dI cA ad hI M  ((y1_10).toNatClampNeg) (by omega) hw0 hn) (mkV hts q_1112 q_53 q_1109 q_1111 q_43 hyX6_spread rfl rfl ⟨(Nat.le_of_ble_eq_true rfl), (Nat.le_of_ble_eq_true rfl)⟩) (w_recv hK hP (k := 0) (by decide) lyM0 (q := (RX6, TX6, 26)) rfl) rfl hl.1 rfl (Nat.le_of_ble_eq_true rfl) dX6_removes_40 ⟨(Nat.le_of_ble_eq_true rfl), (Nat.le_of_ble_eq_true rfl)⟩ (fun r u H locs hw hP hS _ _ => ?_)
            obtain ⟨hw, hu⟩ := hw
            rw [hu] at hP
            have hv := bnd_name hv hw
            obtain ⟨r_11, er_11⟩ : ∃ z, z = r := ⟨_, rfl⟩
            rw [← er_11] at hv hw
            refine w_eql er_11.symm ?_
            have gr_11 := hw
            refine jL_lt (tgt := 52) hx hb dX6_removes_43 dX6_removes_44 (by decide) (fun c_12 => ?_) (fun c_12 => ?_)
            · have hv := hv.trans (if_pos c_12)
              refine lv_iload_n hx hb dX6_removes_52 rfl (lv_at hl 3 rfl) ?_
              refine lv_istore_n (lv' := [(1, .int y1_10), (5, .int (nI i)), (4, .int y4_10), (2, .long y2_10), (0, .ref (ad (0)))]) hx hb dX6_removes_53 rfl hl (by decide) rfl (fun ls hl => ?_)
              refine lv_iload hx hb dX6_removes_54 (lv_at hl 2 rfl) ?_
              refine j0_ne (tgt := 70) hx hb dX6_removes_56 (by decide) (fun c_13 => ?_) (fun c_13 => ?_)
              · have hv := hv.trans (if_pos c_13)
                refine lv_aload_n hx hb dX6_removes_59 rfl (lv_at hl 4 rfl) ?_
                refine lv_iload hx hb dX6_removes_60 (lv_at hl 1 rfl) ?_
                refine kVl hx hb hml hown hts hK hP hS hA (As := [.int (nI i)]) (rest := []) (c_X6_jitterOf l dC dI cA ad hI M  (i) (by omega) hw0 ) (mkV hts q_1037 q_53 q_1034 q_1036 q_33 hyX6_jitterOf rfl rfl ⟨(Nat.le_of_ble_eq_true rfl), (Nat.le_of_ble_eq_true rfl)⟩) (w_recv hK hP (k := 0) (by decide) lyM0 (q := (RX6, TX6, 26)) rfl) rfl hl.1 rfl (Nat.le_of_ble_eq_true rfl) dX6_removes_62 ⟨(Nat.le_of_ble_eq_true rfl), (Nat.le_of_ble_eq_true rfl)⟩ (fun r u H locs hw hP hS _ _ => ?_)
                obtain ⟨hw, hu⟩ := hw
                rw [hu] at hP
                have hv := bnd_name hv hw
                obtain ⟨r_14, er_14⟩ : ∃ z, z = r := ⟨_, rfl⟩
                rw [← er_14] at hv hw
                refine w_eql er_14.symm ?_
                have gr_14 := hw
                refine lv_lload_n hx hb dX6_removes_65 rfl (lv_at hl 3 rfl) ?_
                refine jL_ge (tgt := 79) hx hb dX6_removes_66 dX6_removes_67 (by decide) (fun c_15 => ?_) (fun c_15 => ?_)
                · have hv := hv.trans (if_pos c_15)
                  refine lv_aload_n hx hb dX6_removes_70 rfl (lv_at hl 4 rfl) ?_
                  refine lv_iload hx hb dX6_removes_71 (lv_at hl 1 rfl) ?_
                  refine kVl hx hb hml hown hts hK hP hS hA (As := [.int (nI i)]) (rest := []) (c_X6_jitterOf l dC dI cA ad hI M  (i) (by omega) hw0 ) (mkV hts q_1037 q_53 q_1034 q_1036 q_33 hyX6_jitterOf rfl rfl ⟨(Nat.le_of_ble_eq_true rfl), (Nat.le_of_ble_eq_true rfl)⟩) (w_recv hK hP (k := 0) (by decide) lyM0 (q := (RX6, TX6, 26)) rfl) rfl hl.1 rfl (Nat.le_of_ble_eq_true rfl) dX6_removes_73 ⟨(Nat.le_of_ble_eq_true rfl), (Nat.le_of_ble_eq_true rfl)⟩ (fun r u H locs hw hP hS _ _ => ?_)
                  obtain ⟨hw, hu⟩ := hw
                  rw [hu] at hP
                  have hv := bnd_name hv hw
                  obtain ⟨r_16, er_16⟩ : ∃ z, z = r := ⟨_, rfl⟩
                  rw [← er_16] at hv hw
                  refine w_eql er_16.symm ?_
                  have gr_16 := hw
                  refine lv_goto (tgt := 80) hx hb dX6_removes_76 (by decide) ?_
                  refine lv_lstore_n (lv' := [(2, .long r_16), (1, .int y1_10), (5, .int (nI i)), (4, .int y4_10), (0, .ref (ad (0)))]) hx hb dX6_removes_80 rfl hl (by decide) rfl (fun ls hl => ?_)
                  refine lv_iconst (v := 0) hx hb dX6_removes_81 (by decide) ?_
                  refine lv_istore (lv' := [(4, .int (0 : Int32)), (2, .long r_16), (1, .int y1_10), (5, .int (nI i)), (0, .ref (ad (0)))]) hx hb dX6_removes_82 hl (by decide) rfl (fun ls hl => ?_)
                  refine lv_iinc (v := nI (i + 1)) (lv' := [(5, .int (nI (i + 1))), (4, .int (0 : Int32)), (2, .long r_16), (1, .int y1_10), (0, .ref (ad (0)))]) hx hb dX6_removes_84 hl (k := 3) rfl (show nI (i) + 1 = nI (i + 1) from nI_1 _) (by decide) rfl (fun ls hl => ?_)
                  refine lv_goto (tgt := 10) hx hb dX6_removes_87 (by decide) ?_
                  exact ih (i + 1) (0 : Int32) r_16 y1_10 _ _ _ (by omega) (by omega) (Or.inr (hx0_10.resolve_left (fun h => c_4 h.1))) hv hP hS (lv_sub hl [0, 1, 2, 3, 4] rfl)
                · have hv := hv.trans (if_neg c_15)
                  refine lv_lload_n hx hb dX6_removes_79 rfl (lv_at hl 3 rfl) ?_
                  refine lv_lstore_n (lv' := [(2, .long y2_10), (1, .int y1_10), (5, .int (nI i)), (4, .int y4_10), (0, .ref (ad (0)))]) hx hb dX6_removes_80 rfl hl (by decide) rfl (fun ls hl => ?_)
                  refine lv_iconst (v := 0) hx hb dX6_removes_81 (by decide) ?_
                  refine lv_istore (lv' := [(4, .int (0 : Int32)), (2, .long y2_10), (1, .int y1_10), (5, .int (nI i)), (0, .ref (ad (0)))]) hx hb dX6_removes_82 hl (by decide) rfl (fun ls hl => ?_)
                  refine lv_iinc (v := nI (i + 1)) (lv' := [(5, .int (nI (i + 1))), (4, .int (0 : Int32)), (2, .long y2_10), (1, .int y1_10), (0, .ref (ad (0)))]) hx hb dX6_removes_84 hl (k := 3) rfl (show nI (i) + 1 = nI (i + 1) from nI_1 _) (by decide) rfl (fun ls hl => ?_)
                  refine lv_goto (tgt := 10) hx hb dX6_removes_87 (by decide) ?_
                  exact ih (i + 1) (0 : Int32) y2_10 y1_10 _ _ _ (by omega) (by omega) (Or.inr (hx0_10.resolve_left (fun h => c_4 h.1))) hv hP hS (lv_sub hl [0, 1, 2, 3, 4] rfl)
              · have hv := hv.trans (if_neg c_13)
                refine lv_aload_n hx hb dX6_removes_70 rfl (lv_at hl 4 rfl) ?_
                refine lv_iload hx hb dX6_removes_71 (lv_at hl 1 rfl) ?_
                refine kVl hx hb hml hown hts hK hP hS hA (As := [.int (nI i)]) (rest := []) (c_X6_jitterOf l dC dI cA ad hI M  (i) (by omega) hw0 ) (mkV hts q_1037 q_53 q_1034 q_1036 q_33 hyX6_jitterOf rfl rfl ⟨(Nat.le_of_ble_eq_true rfl), (Nat.le_of_ble_eq_true rfl)⟩) (w_recv hK hP (k := 0) (by decide) lyM0 (q := (RX6, TX6, 26)) rfl) rfl hl.1 rfl (Nat.le_of_ble_eq_true rfl) dX6_removes_73 ⟨(Nat.le_of_ble_eq_true rfl), (Nat.le_of_ble_eq_true rfl)⟩ (fun r u H locs hw hP hS _ _ => ?_)
                obtain ⟨hw, hu⟩ := hw
                rw [hu] at hP
                have hv := bnd_name hv hw
                obtain ⟨r_17, er_17⟩ : ∃ z, z = r := ⟨_, rfl⟩
                rw [← er_17] at hv hw
                refine w_eql er_17.symm ?_
                have gr_17 := hw
                refine lv_goto (tgt := 80) hx hb dX6_removes_76 (by decide) ?_
                refine lv_lstore_n (lv' := [(2, .long r_17), (1, .int y1_10), (5, .int (nI i)), (4, .int y4_10), (0, .ref (ad (0)))]) hx hb dX6_removes_80 rfl hl (by decide) rfl (fun ls hl => ?_)
                refine lv_iconst (v := 0) hx hb dX6_removes_81 (by decide) ?_
                refine lv_istore (lv' := [(4, .int (0 : Int32)), (2, .long r_17), (1, .int y1_10), (5, .int (nI i)), (0, .ref (ad (0)))]) hx hb dX6_removes_82 hl (by decide) rfl (fun ls hl => ?_)
                refine lv_iinc (v := nI (i + 1)) (lv' := [(5, .int (nI (i + 1))), (4, .int (0 : Int32)), (2, .long r_17), (1, .int y1_10), (0, .ref (ad (0)))]) hx hb dX6_removes_84 hl (k := 3) rfl (show nI (i) + 1 = nI (i + 1) from nI_1 _) (by decide) rfl (fun ls hl => ?_)
                refine lv_goto (tgt := 10) hx hb dX6_removes_87 (by decide) ?_
                exact ih (i + 1) (0 : Int32) r_17 y1_10 _ _ _ (by omega) (by omega) (Or.inr (hx0_10.resolve_left (fun h => c_4 h.1))) hv hP hS (lv_sub hl [0, 1, 2, 3, 4] rfl)
            · have hv := hv.trans (if_neg c_12)
              refine lv_iload hx hb dX6_removes_47 (lv_at hl 0 rfl) ?_
              refine lv_goto (tgt := 53) hx hb dX6_removes_49 (by decide) ?_
              refine lv_istore_n (lv' := [(1, .int (nI i)), (5, .int (nI i)), (4, .int y4_10), (2, .long y2_10), (0, .ref (ad (0)))]) hx hb dX6_removes_53 rfl hl (by decide) rfl (fun ls hl => ?_)
              refine lv_iload hx hb dX6_removes_54 (lv_at hl 2 rfl) ?_
              refine j0_ne (tgt := 70) hx hb dX6_removes_56 (by decide) (fun c_18 => ?_) (fun c_18 => ?_)
              · have hv := hv.trans (if_pos c_18)
                refine lv_aload_n hx hb dX6_removes_59 rfl (lv_at hl 4 rfl) ?_
                refine lv_iload hx hb dX6_removes_60 (lv_at hl 1 rfl) ?_
                refine kVl hx hb hml hown hts hK hP hS hA (As := [.int (nI i)]) (rest := []) (c_X6_jitterOf l dC dI cA ad hI M  (i) (by omega) hw0 ) (mkV hts q_1037 q_53 q_1034 q_1036 q_33 hyX6_jitterOf rfl rfl ⟨(Nat.le_of_ble_eq_true rfl), (Nat.le_of_ble_eq_true rfl)⟩) (w_recv hK hP (k := 0) (by decide) lyM0 (q := (RX6, TX6, 26)) rfl) rfl hl.1 rfl (Nat.le_of_ble_eq_true rfl) dX6_removes_62 ⟨(Nat.le_of_ble_eq_true rfl), (Nat.le_of_ble_eq_true rfl)⟩ (fun r u H locs hw hP hS _ _ => ?_)
                obtain ⟨hw, hu⟩ := hw
                rw [hu] at hP
                have hv := bnd_name hv hw
                obtain ⟨r_19, er_19⟩ : ∃ z, z = r := ⟨_, rfl⟩
                rw [← er_19] at hv hw
                refine w_eql er_19.symm ?_
                have gr_19 := hw
                refine lv_lload_n hx hb dX6_removes_65 rfl (lv_at hl 3 rfl) ?_
                refine jL_ge (tgt := 79) hx hb dX6_removes_66 dX6_removes_67 (by decide) (fun c_20 => ?_) (fun c_20 => ?_)
                · have hv := hv.trans (if_pos c_20)
                  refine lv_aload_n hx hb dX6_removes_70 rfl (lv_at hl 4 rfl) ?_
                  refine lv_iload hx hb dX6_removes_71 (lv_at hl 1 rfl) ?_
                  refine kVl hx hb hml hown hts hK hP hS hA (As := [.int (nI i)]) (rest := []) (c_X6_jitterOf l dC dI cA ad hI M  (i) (by omega) hw0 ) (mkV hts q_1037 q_53 q_1034 q_1036 q_33 hyX6_jitterOf rfl rfl ⟨(Nat.le_of_ble_eq_true rfl), (Nat.le_of_ble_eq_true rfl)⟩) (w_recv hK hP (k := 0) (by decide) lyM0 (q := (RX6, TX6, 26)) rfl) rfl hl.1 rfl (Nat.le_of_ble_eq_true rfl) dX6_removes_73 ⟨(Nat.le_of_ble_eq_true rfl), (Nat.le_of_ble_eq_true rfl)⟩ (fun r u H locs hw hP hS _ _ => ?_)
                  obtain ⟨hw, hu⟩ := hw
                  rw [hu] at hP
                  have hv := bnd_name hv hw
                  obtain ⟨r_21, er_21⟩ : ∃ z, z = r := ⟨_, rfl⟩
                  rw [← er_21] at hv hw
                  refine w_eql er_21.symm ?_
                  have gr_21 := hw
                  refine lv_goto (tgt := 80) hx hb dX6_removes_76 (by decide) ?_
                  refine lv_lstore_n (lv' := [(2, .long r_21), (1, .int (nI i)), (5, .int (nI i)), (4, .int y4_10), (0, .ref (ad (0)))]) hx hb dX6_removes_80 rfl hl (by decide) rfl (fun ls hl => ?_)
                  refine lv_iconst (v := 0) hx hb dX6_removes_81 (by decide) ?_
                  refine lv_istore (lv' := [(4, .int (0 : Int32)), (2, .long r_21), (1, .int (nI i)), (5, .int (nI i)), (0, .ref (ad (0)))]) hx hb dX6_removes_82 hl (by decide) rfl (fun ls hl => ?_)
                  refine lv_iinc (v := nI (i + 1)) (lv' := [(5, .int (nI (i + 1))), (4, .int (0 : Int32)), (2, .long r_21), (1, .int (nI i)), (0, .ref (ad (0)))]) hx hb dX6_removes_84 hl (k := 3) rfl (show nI (i) + 1 = nI (i + 1) from nI_1 _) (by decide) rfl (fun ls hl => ?_)
                  refine lv_goto (tgt := 10) hx hb dX6_removes_87 (by decide) ?_
                  exact ih (i + 1) (0 : Int32) r_21 (nI i) _ _ _ (by omega) (by omega) (Or.inr ⟨vp_in_nI (by omega) (by decide), by rw [nI_clamp (by omega)]; exact c_3⟩) hv hP hS (lv_sub hl [0, 1, 2, 3, 4] rfl)
                · have hv := hv.trans (if_neg c_20)
                  refine lv_lload_n hx hb dX6_removes_79 rfl (lv_at hl 3 rfl) ?_
                  refine lv_lstore_n (lv' := [(2, .long y2_10), (1, .int (nI i)), (5, .int (nI i)), (4, .int y4_10), (0, .ref (ad (0)))]) hx hb dX6_removes_80 rfl hl (by decide) rfl (fun ls hl => ?_)
                  refine lv_iconst (v := 0) hx hb dX6_removes_81 (by decide) ?_
                  refine lv_istore (lv' := [(4, .int (0 : Int32)), (2, .long y2_10), (1, .int (nI i)), (5, .int (nI i)), (0, .ref (ad (0)))]) hx hb dX6_removes_82 hl (by decide) rfl (fun ls hl => ?_)
                  refine lv_iinc (v := nI (i + 1)) (lv' := [(5, .int (nI (i + 1))), (4, .int (0 : Int32)), (2, .long y2_10), (1, .int (nI i)), (0, .ref (ad (0)))]) hx hb dX6_removes_84 hl (k := 3) rfl (show nI (i) + 1 = nI (i + 1) from nI_1 _) (by decide) rfl (fun ls hl => ?_)
                  refine lv_goto (tgt := 10) hx hb dX6_removes_87 (by decide) ?_
                  exact ih (i + 1) (0 : Int32) y2_10 (nI i) _ _ _ (by omega) (by omega) (Or.inr ⟨vp_in_nI (by omega) (by decide), by rw [nI_clamp (by omega)]; exact c_3⟩) hv hP hS (lv_sub hl [0, 1, 2, 3, 4] rfl)
              · have hv := hv.trans (if_neg c_18)
                refine lv_aload_n hx hb dX6_removes_70 rfl (lv_at hl 4 rfl) ?_
                refine lv_iload hx hb dX6_removes_71 (lv_at hl 1 rfl) ?_
                refine kVl hx hb hml hown hts hK hP hS hA (As := [.int (nI i)]) (rest := []) (c_X6_jitterOf l dC dI cA ad hI M  (i) (by omega) hw0 ) (mkV hts q_1037 q_53 q_1034 q_1036 q_33 hyX6_jitterOf rfl rfl ⟨(Nat.le_of_ble_eq_true rfl), (Nat.le_of_ble_eq_true rfl)⟩) (w_recv hK hP (k := 0) (by decide) lyM0 (q := (RX6, TX6, 26)) rfl) rfl hl.1 rfl (Nat.le_of_ble_eq_true rfl) dX6_removes_73 ⟨(Nat.le_of_ble_eq_true rfl), (Nat.le_of_ble_eq_true rfl)⟩ (fun r u H locs hw hP hS _ _ => ?_)
                obtain ⟨hw, hu⟩ := hw
                rw [hu] at hP
                have hv := bnd_name hv hw
                obtain ⟨r_22, er_22⟩ : ∃ z, z = r := ⟨_, rfl⟩
                rw [← er_22] at hv hw
                refine w_eql er_22.symm ?_
                have gr_22 := hw
                refine lv_goto (tgt := 80) hx hb dX6_removes_76 (by decide) ?_
                refine lv_lstore_n (lv' := [(2, .long r_22), (1, .int (nI i)), (5, .int (nI i)), (4, .int y4_10), (0, .ref (ad (0)))]) hx hb dX6_removes_80 rfl hl (by decide) rfl (fun ls hl => ?_)
                refine lv_iconst (v := 0) hx hb dX6_removes_81 (by decide) ?_
                refine lv_istore (lv' := [(4, .int (0 : Int32)), (2, .long r_22), (1, .int (nI i)), (5, .int (nI i)), (0, .ref (ad (0)))]) hx hb dX6_removes_82 hl (by decide) rfl (fun ls hl => ?_)
                refine lv_iinc (v := nI (i + 1)) (lv' := [(5, .int (nI (i + 1))), (4, .int (0 : Int32)), (2, .long r_22), (1, .int (nI i)), (0, .ref (ad (0)))]) hx hb dX6_removes_84 hl (k := 3) rfl (show nI (i) + 1 = nI (i + 1) from nI_1 _) (by decide) rfl (fun ls hl => ?_)
                refine lv_goto (tgt := 10) hx hb dX6_removes_87 (by decide) ?_
                exact ih (i + 1) (0 : Int32) r_22 (nI i) _ _ _ (by omega) (by omega) (Or.inr ⟨vp_in_nI (by omega) (by decide), by rw [nI_clamp (by omega)]; exact c_3⟩) hv hP hS (lv_sub hl [0, 1, 2, 3, 4] rfl)
      · have hv := hv.trans (if_neg c_1)
        have hc_1 : ¬ i < 8 := fun h => c_1 (nI_lt h (by decide))
        refine lv_aload_n hx hb dX6_removes_90 rfl (lv_at hl 4 rfl) ?_
        refine lv_iload_n hx hb dX6_removes_91 rfl (lv_at hl 3 rfl) ?_
        have hin := (hx0_10.resolve_left (fun h => hs.elim fun j hj => hj.2 (h.2 j (by omega)))).1
        have hin8 := vp_lt hin
        refine w_eqi (y := nI ((y1_10).toNatClampNeg)) (nI_of_vp hin (by decide)) ?_
        refine kVl hx hb hml hown hts hK hP hS hA (As := [.int (nI ((y1_10).toNatClampNeg))]) (rest := []) (c_X6_spread l dC dI cA ad hI M  ((y1_10).toNatClampNeg) (by omega) hw0 hn) (mkV hts q_1112 q_53 q_1109 q_1111 q_43 hyX6_spread rfl rfl ⟨(Nat.le_of_ble_eq_true rfl), (Nat.le_of_ble_eq_true rfl)⟩) (w_recv hK hP (k := 0) (by decide) lyM0 (q := (RX6, TX6, 26)) rfl) rfl hl.1 rfl (Nat.le_of_ble_eq_true rfl) dX6_removes_92 ⟨(Nat.le_of_ble_eq_true rfl), (Nat.le_of_ble_eq_true rfl)⟩ (fun r u H locs hw hP hS _ _ => ?_)
        obtain ⟨hw, hu⟩ := hw
        rw [hu] at hP
        have hv := bnd_name hv hw
        obtain ⟨r_23, er_23⟩ : ∃ z, z = r := ⟨_, rfl⟩
        rw [← er_23] at hv hw
        refine w_eql er_23.symm ?_
        have gr_23 := hw
        refine lv_lload_n hx hb dX6_removes_95 rfl (lv_at hl 2 rfl) ?_
        refine jL_le (tgt := 104) hx hb dX6_removes_96 dX6_removes_97 (by decide) (fun c_24 => ?_) (fun c_24 => ?_)
        · have hv := hv.trans (if_pos c_24)
          refine lv_iconst (v := 1) hx hb dX6_removes_100 (by decide) ?_
          refine lv_goto (tgt := 105) hx hb dX6_removes_101 (by decide) ?_
          refine lv_istore (lv' := [(5, .int (1 : Int32)), (4, .int y4_10), (2, .long y2_10), (1, .int y1_10), (0, .ref (ad (0)))]) hx hb dX6_removes_105 hl (by decide) rfl (fun ls hl => ?_)
          refine lv_iload hx hb dX6_removes_107 (lv_at hl 0 rfl) ?_
          refine j0_eq (tgt := 119) hx hb dX6_removes_109 (by decide) (fun c_25 => absurd c_25 (by decide)) (fun _ => ?_)
          refine lv_aload_n hx hb dX6_removes_112 rfl (lv_at hl 4 rfl) ?_
          refine fg_X6_46 hx hb hts hK hP hown dX6_removes_113 ?_
          refine lv_iload_n hx hb dX6_removes_116 rfl (lv_at hl 3 rfl) ?_
          refine lv_iconst (v := 0) hx hb dX6_removes_117 (by decide) ?_
          have hin := (hx0_10.resolve_left (fun h => hs.elim fun j hj => hj.2 (h.2 j (by omega)))).1
          refine w_zast hx hb hK hP hI hS hA (k := 11) (by decide) lyM11 uAM11 rfl hin dX6_removes_118 (fun H locs hP hS => ?_)
          obtain ⟨M_26, eM_26⟩ : ∃ z : Mem, z = sB M 7 (upd (gB M 7) (y1_10).toNatClampNeg (0 : Int32)) := ⟨_, rfl⟩
          rw [← eM_26] at hP
          have hv := bnd_name hv eM_26
          have wM_26 : WFm M_26 := by rw [eM_26]; exact WFm_7 hw0 (by decide)
          refine lv_iload hx hb dX6_removes_119 (lv_at hl 0 rfl) ?_
          exact W.zret (v := (1 : Int32)) hx hb hr rfl (fun t ht hW => ⟨⟨_, M_26, rfl, ⟨hv.symm.trans eV, wM_26, fun _ => by rw [eM_26]; exact Nat.le_of_eq (cnt_drop (vp_lt hin) (hx0_10.resolve_left (fun h => hs.elim fun j hj => hj.2 (h.2 j (by omega)))).2)⟩, by rw [ht]; exact hP, va_K.moved hW.alike hK⟩, hS.F ht⟩) hS.2.2 dX6_removes_121
        · have hv := hv.trans (if_neg c_24)
          refine lv_iconst (v := 0) hx hb dX6_removes_104 (by decide) ?_
          refine lv_istore (lv' := [(5, .int (0 : Int32)), (4, .int y4_10), (2, .long y2_10), (1, .int y1_10), (0, .ref (ad (0)))]) hx hb dX6_removes_105 hl (by decide) rfl (fun ls hl => ?_)
          refine lv_iload hx hb dX6_removes_107 (lv_at hl 0 rfl) ?_
          refine j0_eq (tgt := 119) hx hb dX6_removes_109 (by decide) (fun _ => ?_) (fun c_27 => absurd (by decide) c_27)
          refine lv_iload hx hb dX6_removes_119 (lv_at hl 0 rfl) ?_
          exact W.zret (v := (0 : Int32)) hx hb hr rfl (fun t ht hW => ⟨⟨_, M, rfl, ⟨hv.symm.trans eV, hw0, fun h => absurd rfl h⟩, by rw [ht]; exact hP, va_K.moved hW.alike hK⟩, hS.F ht⟩) hS.2.2 dX6_removes_121
  exact L10 (8 + 1 - 0) 0 (1 : Int32) (0 : Int64) ((-1) : Int32) _ _ _ (by omega) (by omega) (Or.inl ⟨rfl, fun j h => absurd h (Nat.not_lt_zero j)⟩) hv hP hS (lv_sub hl [0, 1, 2, 3, 4] rfl)
def f_X6_select_L32  : Nat → Nat → Mem → Int32 → Mem
  | 0, _, M_32, _ => M_32
  | r + 1, i, M_32, y1_32 => if y1_32 = (0 : Int32) then M_32 else bnd (f_X6_surviving M_32  ) fun r_6 => if (3 : Int32) < r_6 then bnd2 (f_X6_removes M_32  ) fun r_9 M_8 => f_X6_select_L32   r (i + 1) M_8 r_9 else M_32
def f_X6_select_L6  : Nat → Nat → Mem → Mem
  | 0, _, M_6 => M_6
  | r + 1, i, M_6 => if nI i < (8 : Int32) then bnd (sB M_6 7 (upd (gB M_6 7) (i) (gB M_6 6 (i)))) fun M_4 => f_X6_select_L6   r (i + 1) M_4  else f_X6_select_L32   (9 + 1 - 0) 0 M_6 (1 : Int32)
def f_X6_select (M : Mem)  : Mem := bnd (f_X6_intersect M  ) fun M_1 => f_X6_select_L6   (8 + 1 - 0) 0 M_1 
theorem hyX6_select : yX6_select.cls ≠ "java/lang/invoke/MethodHandle" ∧ yX6_select.cls ≠ "java/lang/invoke/VarHandle" ∧ (parseMethodDescriptor yX6_select.desc).map (fun d => d.parameters.length) = some 0 := by decide +kernel
set_option maxHeartbeats 4000000 in
set_option maxRecDepth 100000 in
theorem c_X6_select (l : Launch) (dC : Nat → ClassId) (dI : Nat → Nat → Nat) (cA : Nat → ClassId) (ad : Nat → Nat) (hI : Inj 12 ad) (M : Mem) (hw0 : WFm M)  : Met l yX6_select (.code yX6_select cX6_select 2 none :: AG) ({ frames := 7, cells := 0, slots := 0, locals := 160 } : Room) (va_Pc [.ref (ad (0))] (PM dC dI cA ad M)) (va_Qv (fun u => u = f_X6_select M  ∧ WFm u) (PM dC dI cA ad) (adS 12 ad)) 0 0 (adS 12 ad) := by
  refine cMet (by decide) (Nat.le_of_ble_eq_true rfl) ?_
  intro p e s m below meth c ls hx hb hr hml hlocks hown hts hK hP hS hl
  have hA : ∀ q, adS 12 ad q → adS 12 ad q := fun _ h => h
  have hl : lv_has ls 2 [(0, .ref (ad (0)))] := hl
  obtain ⟨V, eV⟩ : ∃ z, z = f_X6_select M  := ⟨_, rfl⟩
  have hv := eV
  unfold f_X6_select at hv
  refine lv_aload_n hx hb dX6_select_0 rfl (lv_at hl 0 rfl) ?_
  refine kVv hx hb hml hown hts hK hP hS hA (As := []) (rest := []) (c_X6_intersect l dC dI cA ad hI M   hw0 ) (mkV hts q_1057 q_53 q_1054 q_1056 q_35 hyX6_intersect rfl rfl ⟨(Nat.le_of_ble_eq_true rfl), (Nat.le_of_ble_eq_true rfl)⟩) (w_recv hK hP (k := 0) (by decide) lyM0 (q := (RX6, TX6, 26)) rfl) rfl hl.1 rfl (Nat.le_of_ble_eq_true rfl) dX6_select_1 ⟨(Nat.le_of_ble_eq_true rfl), (Nat.le_of_ble_eq_true rfl)⟩ (fun u H locs hw hP hS _ _ => ?_)
  obtain ⟨M_1, eM_1⟩ : ∃ z, z = u := ⟨_, rfl⟩
  rw [← eM_1] at hP hw
  obtain ⟨hw, wM_1⟩ := hw
  have gM_1 := hw
  have hv := bnd_name hv hw
  refine lv_iconst (v := 0) hx hb dX6_select_4 (by decide) ?_
  refine lv_istore_n (lv' := [(1, .int (0 : Int32)), (0, .ref (ad (0)))]) hx hb dX6_select_5 rfl hl (by decide) rfl (fun ls hl => ?_)
  have L6 : ∀ (r i : Nat) (M_6 : Mem) (H : Heap) (locs : List Loc) (ls : Array Slot), i + r = 8 + 1 → i ≤ 8 → (WFm M_6) → V = f_X6_select_L6   r i M_6  → va_P (dC, dI) vwCl (wld 12 layM cA ad M_6) H → va_S (adS 12 ad) s.heap H locs → lv_has ls 2 [(1, .int (nI i)), (0, .ref (ad (0)))] → W p l e ({ frames := 7, cells := 0, slots := 0, locals := 160 } : Room) s m ([.ref (ad (0))] : List Value).toArray below meth c H locs 0 0 (MQ below (va_Qv (fun u => u = f_X6_select M  ∧ WFm u) (PM dC dI cA ad) (adS 12 ad)) ([.ref (ad (0))] : List Value).toArray s 0 0 (adS 12 ad)) (F0 m 6 ls []) := by
    intro r
    induction r with
    | zero =>
      intro i M_6 H locs ls hir hib
      omega
    | succ r ih =>
      intro i M_6 H locs ls hir hib hx0_6 hv hP hS hl
      rw [f_X6_select_L6] at hv
      refine lv_iload_n hx hb dX6_select_6 rfl (lv_at hl 0 rfl) ?_
      refine lv_bipush (v := 8) hx hb dX6_select_7 (by decide) ?_
      refine jI_ge (tgt := 30) hx hb dX6_select_9 (by decide) (fun c_2 => ?_) (fun c_2 => ?_)
      · have hv := hv.trans (if_pos c_2)
        have hc_2 : i < 8 := nI_lt8 (n := 8) c_2 (by omega) (by decide)
        refine lv_aload_n hx hb dX6_select_12 rfl (lv_at hl 1 rfl) ?_
        refine fg_X6_46 hx hb hts hK hP hown dX6_select_13 ?_
        refine lv_iload_n hx hb dX6_select_16 rfl (lv_at hl 0 rfl) ?_
        refine lv_aload_n hx hb dX6_select_17 rfl (lv_at hl 1 rfl) ?_
        refine fg_X6_42 hx hb hts hK hP hown dX6_select_18 ?_
        refine lv_iload_n hx hb dX6_select_21 rfl (lv_at hl 0 rfl) ?_
        refine w_zaldN hx hb hK hP (k := 10) (by decide) lyM10 (i := i) (by omega) (by decide) dX6_select_22 ?_
        have bo_3 := hx0_6.2.2.1 (i) (by omega)
        refine w_zastN hx hb hK hP hI hS hA (k := 11) (by decide) lyM11 uAM11 (bo_nar bo_3) (i := i) (by omega) (by decide) dX6_select_23 (fun H locs hP hS => ?_)
        obtain ⟨M_4, eM_4⟩ : ∃ z : Mem, z = sB M_6 7 (upd (gB M_6 7) (i) (gB M_6 6 (i))) := ⟨_, rfl⟩
        rw [← eM_4] at hP
        have hv := bnd_name hv eM_4
        have wM_4 : WFm M_4 := by rw [eM_4]; exact WFm_7 hx0_6 bo_3
        refine lv_iinc (v := nI (i + 1)) (lv' := [(1, .int (nI (i + 1))), (0, .ref (ad (0)))]) hx hb dX6_select_24 hl (k := 0) rfl (show nI (i) + 1 = nI (i + 1) from nI_1 _) (by decide) rfl (fun ls hl => ?_)
        refine lv_goto (tgt := 6) hx hb dX6_select_27 (by decide) ?_
        exact ih (i + 1)  M_4 _ _ _ (by omega) (by omega) (wM_4) hv hP hS (lv_sub hl [0, 1] rfl)
      · have hv := hv.trans (if_neg c_2)
        have hc_2 : ¬ i < 8 := fun h => c_2 (nI_lt h (by decide))
        refine lv_iconst (v := 1) hx hb dX6_select_30 (by decide) ?_
        refine lv_istore_n (lv' := [(1, .int (1 : Int32)), (0, .ref (ad (0)))]) hx hb dX6_select_31 rfl hl (by decide) rfl (fun ls hl => ?_)
        have L32 : ∀ (r i : Nat) (y1_32 : Int32) (M_32 : Mem) (H : Heap) (locs : List Loc) (ls : Array Slot), i + r = 9 + 1 → i ≤ 9 → (¬ y1_32 = 0 → cnt7 M_32 + i ≤ 8) → (WFm M_32) → V = f_X6_select_L32   r i M_32 y1_32 → va_P (dC, dI) vwCl (wld 12 layM cA ad M_32) H → va_S (adS 12 ad) s.heap H locs → lv_has ls 2 [(1, .int y1_32), (0, .ref (ad (0)))] → W p l e ({ frames := 7, cells := 0, slots := 0, locals := 160 } : Room) s m ([.ref (ad (0))] : List Value).toArray below meth c H locs 0 0 (MQ below (va_Qv (fun u => u = f_X6_select M  ∧ WFm u) (PM dC dI cA ad) (adS 12 ad)) ([.ref (ad (0))] : List Value).toArray s 0 0 (adS 12 ad)) (F0 m 32 ls []) := by
          intro r
          induction r with
          | zero =>
            intro i y1_32 M_32 H locs ls hir hib
            omega
          | succ r ih =>
            intro i y1_32 M_32 H locs ls hir hib hx0_32 hx1_32 hv hP hS hl
            rw [f_X6_select_L32] at hv
            refine lv_iload_n hx hb dX6_select_32 rfl (lv_at hl 0 rfl) ?_
            refine j0_eq (tgt := 52) hx hb dX6_select_33 (by decide) (fun c_5 => ?_) (fun c_5 => ?_)
            · have hv := hv.trans (if_pos c_5)
              exact W.vret hx hb hr (fun t ht hW => ⟨⟨M_32, rfl, ⟨hv.symm.trans eV, hx1_32⟩, by rw [ht]; exact hP, va_K.moved hW.alike hK⟩, hS.F ht⟩) hS.2.2 dX6_select_52
            · have hv := hv.trans (if_neg c_5)
              refine lv_aload_n hx hb dX6_select_36 rfl (lv_at hl 1 rfl) ?_
              refine kVi hx hb hml hown hts hK hP hS hA (As := []) (rest := []) (c_X6_surviving l dC dI cA ad hI M_32   hx1_32 ) (mkV hts q_1104 q_53 q_1101 q_1103 q_41 hyX6_surviving rfl rfl ⟨(Nat.le_of_ble_eq_true rfl), (Nat.le_of_ble_eq_true rfl)⟩) (w_recv hK hP (k := 0) (by decide) lyM0 (q := (RX6, TX6, 26)) rfl) rfl hl.1 rfl (Nat.le_of_ble_eq_true rfl) dX6_select_37 ⟨(Nat.le_of_ble_eq_true rfl), (Nat.le_of_ble_eq_true rfl)⟩ (fun r u H locs hw hP hS _ _ => ?_)
              obtain ⟨hw, hu, hxp⟩ := hw
              rw [hu] at hP
              have hv := bnd_name hv hw
              obtain ⟨r_6, er_6⟩ : ∃ z, z = r := ⟨_, rfl⟩
              rw [← er_6] at hv hw hxp
              refine w_eqi er_6.symm ?_
              have gr_6 := hw
              have pr_6 := hxp
              refine lv_iconst (v := 3) hx hb dX6_select_40 (by decide) ?_
              refine jI_le (tgt := 52) hx hb dX6_select_41 (by decide) (fun c_7 => ?_) (fun c_7 => ?_)
              · have hv := hv.trans (if_pos c_7)
                refine lv_aload_n hx hb dX6_select_44 rfl (lv_at hl 1 rfl) ?_
                refine kVi hx hb hml hown hts hK hP hS hA (As := []) (rest := []) (c_X6_removes l dC dI cA ad hI M_32   hx1_32 (cntTo_ex (i := 8) (by have h4 := (sv_ne pr_6 c_7).1; show 0 < cnt7 _; omega)) (by rw [← gr_6]; exact (sv_ne pr_6 c_7).2)) (mkV hts q_1108 q_53 q_1105 q_1107 q_42 hyX6_removes rfl rfl ⟨(Nat.le_of_ble_eq_true rfl), (Nat.le_of_ble_eq_true rfl)⟩) (w_recv hK hP (k := 0) (by decide) lyM0 (q := (RX6, TX6, 26)) rfl) rfl hl.1 rfl (Nat.le_of_ble_eq_true rfl) dX6_select_45 ⟨(Nat.le_of_ble_eq_true rfl), (Nat.le_of_ble_eq_true rfl)⟩ (fun r u H locs hw hP hS _ _ => ?_)
                obtain ⟨M_8, eM_8⟩ : ∃ z, z = u := ⟨_, rfl⟩
                rw [← eM_8] at hP hw
                obtain ⟨r_9, er_9⟩ : ∃ z, z = r := ⟨_, rfl⟩
                rw [← er_9] at hw
                refine w_eqi er_9.symm ?_
                obtain ⟨hw, wM_8, hxp⟩ := hw
                have pr_9 := hxp
                have gM_8 := hw
                have hv := bnd2_name hv hw
                refine lv_istore_n (lv' := [(1, .int r_9), (0, .ref (ad (0)))]) hx hb dX6_select_48 rfl hl (by decide) rfl (fun ls hl => ?_)
                refine lv_goto (tgt := 32) hx hb dX6_select_49 (by decide) ?_
                have h1 := hx0_32 c_5
                have h4 := (sv_ne pr_6 c_7).1
                exact ih (i + 1) r_9 M_8 _ _ _ (by omega) (by omega) (fun h => by have h5 := pr_9 h; omega) (wM_8) hv hP hS (lv_sub hl [0, 1] rfl)
              · have hv := hv.trans (if_neg c_7)
                exact W.vret hx hb hr (fun t ht hW => ⟨⟨M_32, rfl, ⟨hv.symm.trans eV, hx1_32⟩, by rw [ht]; exact hP, va_K.moved hW.alike hK⟩, hS.F ht⟩) hS.2.2 dX6_select_52
        exact L32 (9 + 1 - 0) 0 (1 : Int32) M_6 _ _ _ (by omega) (by omega) (fun _ => cntTo_le _ 8) (hx0_6) hv hP hS (lv_sub hl [0, 1] rfl)
  exact L6 (8 + 1 - 0) 0  M_1 _ _ _ (by omega) (by omega) (wM_1) hv hP hS (lv_sub hl [0, 1] rfl)
def f_X6_set_L4 (M : Mem) (a0 : Nat) : Nat → Nat → Int32 → Int32
  | 0, _, _ => 0
  | r + 1, i, y1_4 => if nI i < (8 : Int32) then if gB M a0 (i) = (0 : Int32) then bnd ((y1_4 + (0 : Int32))) fun x_3 => f_X6_set_L4 M a0 r (i + 1) x_3 else bnd ((y1_4 + ((1 : Int32) <<< (nI i &&& 31)))) fun x_4 => f_X6_set_L4 M a0 r (i + 1) x_4 else y1_4
def f_X6_set (M : Mem) (a0 : Nat) : Int32 := f_X6_set_L4 M a0 (8 + 1 - 0) 0 (0 : Int32)
theorem hyX6_set : yX6_set.cls ≠ "java/lang/invoke/MethodHandle" ∧ yX6_set.cls ≠ "java/lang/invoke/VarHandle" ∧ (parseMethodDescriptor yX6_set.desc).map (fun d => d.parameters.length) = some 1 := by decide +kernel
set_option maxHeartbeats 4000000 in
set_option maxRecDepth 100000 in
theorem c_X6_set (l : Launch) (dC : Nat → ClassId) (dI : Nat → Nat → Nat) (cA : Nat → ClassId) (ad : Nat → Nat) (hI : Inj 12 ad) (M : Mem) (c0 a0 : Nat) (hc : c0 < 12) (hly : layM c0 = (3, a0, 8, [])) (hw0 : WFm M)  : Met l yX6_set (.code yX6_set cX6_set 3 (some .int) :: AG) ({ frames := 0, cells := 0, slots := 0, locals := 0 } : Room) (va_Pc [.ref (ad (c0))] (PM dC dI cA ad M)) (va_Qi (fun r u => r = f_X6_set M a0 ∧ u = M) (PM dC dI cA ad) (adS 12 ad)) 0 0 (adS 12 ad) := by
  refine cMet (by decide) (Nat.le_of_ble_eq_true rfl) ?_
  intro p e s m below meth c ls hx hb hr hml hlocks hown hts hK hP hS hl
  have hA : ∀ q, adS 12 ad q → adS 12 ad q := fun _ h => h
  have hl : lv_has ls 3 [(0, .ref (ad (c0)))] := hl
  obtain ⟨V, eV⟩ : ∃ z, z = f_X6_set M a0 := ⟨_, rfl⟩
  have hv := eV
  unfold f_X6_set at hv
  refine lv_iconst (v := 0) hx hb dX6_set_0 (by decide) ?_
  refine lv_istore_n (lv' := [(1, .int (0 : Int32)), (0, .ref (ad (c0)))]) hx hb dX6_set_1 rfl hl (by decide) rfl (fun ls hl => ?_)
  refine lv_iconst (v := 0) hx hb dX6_set_2 (by decide) ?_
  refine lv_istore_n (lv' := [(2, .int (0 : Int32)), (1, .int (0 : Int32)), (0, .ref (ad (c0)))]) hx hb dX6_set_3 rfl hl (by decide) rfl (fun ls hl => ?_)
  have L4 : ∀ (r i : Nat) (y1_4 : Int32) (H : Heap) (locs : List Loc) (ls : Array Slot), i + r = 8 + 1 → i ≤ 8 → V = f_X6_set_L4 M a0 r i y1_4 → va_P (dC, dI) vwCl (wld 12 layM cA ad M) H → va_S (adS 12 ad) s.heap H locs → lv_has ls 3 [(2, .int (nI i)), (1, .int y1_4), (0, .ref (ad (c0)))] → W p l e ({ frames := 0, cells := 0, slots := 0, locals := 0 } : Room) s m ([.ref (ad (c0))] : List Value).toArray below meth c H locs 0 0 (MQ below (va_Qi (fun r u => r = f_X6_set M a0 ∧ u = M) (PM dC dI cA ad) (adS 12 ad)) ([.ref (ad (c0))] : List Value).toArray s 0 0 (adS 12 ad)) (F0 m 4 ls []) := by
    intro r
    induction r with
    | zero =>
      intro i y1_4 H locs ls hir hib
      omega
    | succ r ih =>
      intro i y1_4 H locs ls hir hib hv hP hS hl
      rw [f_X6_set_L4] at hv
      refine lv_iload_n hx hb dX6_set_4 rfl (lv_at hl 0 rfl) ?_
      refine lv_bipush (v := 8) hx hb dX6_set_5 (by decide) ?_
      refine jI_ge (tgt := 32) hx hb dX6_set_7 (by decide) (fun c_1 => ?_) (fun c_1 => ?_)
      · have hv := hv.trans (if_pos c_1)
        have hc_1 : i < 8 := nI_lt8 (n := 8) c_1 (by omega) (by decide)
        refine lv_iload_n hx hb dX6_set_10 rfl (lv_at hl 1 rfl) ?_
        refine lv_aload_n hx hb dX6_set_11 rfl (lv_at hl 2 rfl) ?_
        refine lv_iload_n hx hb dX6_set_12 rfl (lv_at hl 0 rfl) ?_
        refine w_zaldN hx hb hK hP (k := c0) hc hly (i := i) (by omega) (by decide) dX6_set_13 ?_
        refine j0_eq (tgt := 23) hx hb dX6_set_14 (by decide) (fun c_2 => ?_) (fun c_2 => ?_)
        · have hv := hv.trans (if_pos c_2)
          refine lv_iconst (v := 0) hx hb dX6_set_23 (by decide) ?_
          refine lv_iadd hx hb dX6_set_24 ?_
          refine lv_topi (fun x_3 ex_3 => ?_)
          have hv := bnd_name hv ex_3
          refine lv_istore_n (lv' := [(1, .int x_3), (2, .int (nI i)), (0, .ref (ad (c0)))]) hx hb dX6_set_25 rfl hl (by decide) rfl (fun ls hl => ?_)
          refine lv_iinc (v := nI (i + 1)) (lv' := [(2, .int (nI (i + 1))), (1, .int x_3), (0, .ref (ad (c0)))]) hx hb dX6_set_26 hl (k := 1) rfl (show nI (i) + 1 = nI (i + 1) from nI_1 _) (by decide) rfl (fun ls hl => ?_)
          refine lv_goto (tgt := 4) hx hb dX6_set_29 (by decide) ?_
          exact ih (i + 1) x_3 _ _ _ (by omega) (by omega)  hv hP hS (lv_sub hl [0, 1, 2] rfl)
        · have hv := hv.trans (if_neg c_2)
          refine lv_iconst (v := 1) hx hb dX6_set_17 (by decide) ?_
          refine lv_iload_n hx hb dX6_set_18 rfl (lv_at hl 0 rfl) ?_
          refine lv_ishl hx hb dX6_set_19 ?_
          refine lv_goto (tgt := 24) hx hb dX6_set_20 (by decide) ?_
          refine lv_iadd hx hb dX6_set_24 ?_
          refine lv_topi (fun x_4 ex_4 => ?_)
          have hv := bnd_name hv ex_4
          refine lv_istore_n (lv' := [(1, .int x_4), (2, .int (nI i)), (0, .ref (ad (c0)))]) hx hb dX6_set_25 rfl hl (by decide) rfl (fun ls hl => ?_)
          refine lv_iinc (v := nI (i + 1)) (lv' := [(2, .int (nI (i + 1))), (1, .int x_4), (0, .ref (ad (c0)))]) hx hb dX6_set_26 hl (k := 1) rfl (show nI (i) + 1 = nI (i + 1) from nI_1 _) (by decide) rfl (fun ls hl => ?_)
          refine lv_goto (tgt := 4) hx hb dX6_set_29 (by decide) ?_
          exact ih (i + 1) x_4 _ _ _ (by omega) (by omega)  hv hP hS (lv_sub hl [0, 1, 2] rfl)
      · have hv := hv.trans (if_neg c_1)
        have hc_1 : ¬ i < 8 := fun h => c_1 (nI_lt h (by decide))
        refine lv_iload_n hx hb dX6_set_32 rfl (lv_at hl 1 rfl) ?_
        exact W.iret (v := y1_4) hx hb hr (fun t ht hW => ⟨⟨_, M, rfl, ⟨hv.symm.trans eV, rfl⟩, by rw [ht]; exact hP, va_K.moved hW.alike hK⟩, hS.F ht⟩) hS.2.2 dX6_set_33
  exact L4 (8 + 1 - 0) 0 (0 : Int32) _ _ _ (by omega) (by omega)  hv hP hS (lv_sub hl [0, 1, 2] rfl)
