def f_X6_best_L10 (M : Mem) (j0 : Nat) : Nat → Nat → Nat → Int32
  | 0, _, _ => 0
  | r + 1, i, b => if nI i < nI ((8 * j0) + (kn M (j0))) then if gJ M 1 (b) < gJ M 1 (i) then f_X6_best_L10 M j0 r (i + 1) b else f_X6_best_L10 M j0 r (i + 1) i else nI b
def f_X6_best (M : Mem) (j0 : Nat) : Int32 := f_X6_best_L10 M j0 ((8 * j0 + kn M j0) + 1 - 8 * j0) (8 * j0) (8 * j0)
theorem hyX6_best : yX6_best.cls ≠ "java/lang/invoke/MethodHandle" ∧ yX6_best.cls ≠ "java/lang/invoke/VarHandle" ∧ (parseMethodDescriptor yX6_best.desc).map (fun d => d.parameters.length) = some 1 := by decide +kernel
set_option maxHeartbeats 4000000 in
set_option maxRecDepth 100000 in
theorem c_X6_best (l : Launch) (dC : Nat → ClassId) (dI : Nat → Nat → Nat) (cA : Nat → ClassId) (ad : Nat → Nat) (hI : Inj 12 ad) (M : Mem) (j0 : Nat) (hj0 : j0 < 8) (hw0 : WFm M)  : Met l yX6_best (.code yX6_best cX6_best 4 (some .int) :: AG) ({ frames := 0, cells := 0, slots := 0, locals := 0 } : Room) (va_Pc [.ref (ad (0)), .int (nI j0)] (PM dC dI cA ad M)) (va_Qi (fun r u => r = f_X6_best M j0 ∧ u = M) (PM dC dI cA ad) (adS 12 ad)) 0 0 (adS 12 ad) := by
  refine cMet (by decide) (Nat.le_of_ble_eq_true rfl) ?_
  intro p e s m below meth c ls hx hb hr hml hlocks hown hts hK hP hS hl
  have hA : ∀ q, adS 12 ad q → adS 12 ad q := fun _ h => h
  have hl : lv_has ls 4 [(0, .ref (ad (0))), (1, .int (nI j0))] := hl
  obtain ⟨V, eV⟩ : ∃ z, z = f_X6_best M j0 := ⟨_, rfl⟩
  have hv := eV
  unfold f_X6_best at hv
  have hk0 := (WFk hw0 (j := j0) (by omega)).1
  refine lv_bipush (v := 8) hx hb dX6_best_0 (by decide) ?_
  refine lv_iload_n hx hb dX6_best_2 rfl (lv_at hl 1 rfl) ?_
  refine lv_imul hx hb dX6_best_3 ?_
  refine w_eqi (y := nI (8 * j0)) (pk_mul 8 j0) ?_
  refine lv_istore_n (lv' := [(2, .int (nI (8 * j0))), (0, .ref (ad (0))), (1, .int (nI j0))]) hx hb dX6_best_4 rfl hl (by decide) rfl (fun ls hl => ?_)
  refine lv_bipush (v := 8) hx hb dX6_best_5 (by decide) ?_
  refine lv_iload_n hx hb dX6_best_7 rfl (lv_at hl 2 rfl) ?_
  refine lv_imul hx hb dX6_best_8 ?_
  refine w_eqi (y := nI (8 * j0)) (pk_mul 8 j0) ?_
  refine lv_istore_n (lv' := [(3, .int (nI (8 * j0))), (2, .int (nI (8 * j0))), (0, .ref (ad (0))), (1, .int (nI j0))]) hx hb dX6_best_9 rfl hl (by decide) rfl (fun ls hl => ?_)
  have L10 : ∀ (r i : Nat) (b : Nat) (H : Heap) (locs : List Loc) (ls : Array Slot), i + r = (8 * j0 + kn M j0) + 1 → i ≤ (8 * j0 + kn M j0) → (b < 64) → V = f_X6_best_L10 M j0 r i b → va_P (dC, dI) vwCl (wld 12 layM cA ad M) H → va_S (adS 12 ad) s.heap H locs → lv_has ls 4 [(3, .int (nI i)), (2, .int (nI b)), (0, .ref (ad (0))), (1, .int (nI j0))] → W p l e ({ frames := 0, cells := 0, slots := 0, locals := 0 } : Room) s m ([.ref (ad (0)), .int (nI j0)] : List Value).toArray below meth c H locs 0 0 (MQ below (va_Qi (fun r u => r = f_X6_best M j0 ∧ u = M) (PM dC dI cA ad) (adS 12 ad)) ([.ref (ad (0)), .int (nI j0)] : List Value).toArray s 0 0 (adS 12 ad)) (F0 m 10 ls []) := by
    intro r
    induction r with
    | zero =>
      intro i b H locs ls hir hib
      omega
    | succ r ih =>
      intro i b H locs ls hir hib hx0_10 hv hP hS hl
      rw [f_X6_best_L10] at hv
      refine lv_iload_n hx hb dX6_best_10 rfl (lv_at hl 0 rfl) ?_
      refine lv_bipush (v := 8) hx hb dX6_best_11 (by decide) ?_
      refine lv_iload_n hx hb dX6_best_13 rfl (lv_at hl 3 rfl) ?_
      refine lv_imul hx hb dX6_best_14 ?_
      refine w_eqi (y := nI (8 * j0)) (pk_mul 8 j0) ?_
      refine lv_aload_n hx hb dX6_best_15 rfl (lv_at hl 2 rfl) ?_
      refine fg_X6_29 hx hb hts hK hP hown dX6_best_16 ?_
      refine lv_iload_n hx hb dX6_best_19 rfl (lv_at hl 3 rfl) ?_
      refine w_ialdN hx hb hK hP (k := 6) (by decide) lyM6 (i := j0) (by omega) (by decide) dX6_best_20 ?_
      have q_1 := (WFk hw0 (j := j0) (by omega)).1
      refine w_eqi (y := nI (kn M (j0))) (WFk hw0 (j := j0) (by omega)).2 ?_
      refine lv_iadd hx hb dX6_best_21 ?_
      refine w_eqi (y := nI ((8 * j0) + (kn M (j0)))) (nI_add (8 * j0) (kn M (j0))) ?_
      refine jI_ge (tgt := 53) hx hb dX6_best_22 (by decide) (fun c_2 => ?_) (fun c_2 => ?_)
      · have hv := hv.trans (if_pos c_2)
        have hc_2 : i < (8 * j0) + (kn M (j0)) := nI_lt8 c_2 (by omega) (by omega)
        refine lv_aload_n hx hb dX6_best_25 rfl (lv_at hl 2 rfl) ?_
        refine fg_X6_36 hx hb hts hK hP hown dX6_best_26 ?_
        refine lv_iload_n hx hb dX6_best_29 rfl (lv_at hl 0 rfl) ?_
        refine w_laldN hx hb hK hP (k := 8) (by decide) lyM8 (i := i) (by omega) (by decide) dX6_best_30 ?_
        refine lv_aload_n hx hb dX6_best_31 rfl (lv_at hl 2 rfl) ?_
        refine fg_X6_36 hx hb hts hK hP hown dX6_best_32 ?_
        refine lv_iload_n hx hb dX6_best_35 rfl (lv_at hl 1 rfl) ?_
        refine w_laldN hx hb hK hP (k := 8) (by decide) lyM8 (i := b) (by omega) (by decide) dX6_best_36 ?_
        refine jL_gt (tgt := 45) hx hb dX6_best_37 dX6_best_38 (by decide) (fun c_3 => ?_) (fun c_3 => ?_)
        · have hv := hv.trans (if_pos c_3)
          refine lv_iload_n hx hb dX6_best_45 rfl (lv_at hl 1 rfl) ?_
          refine lv_istore_n (lv' := [(2, .int (nI b)), (3, .int (nI i)), (0, .ref (ad (0))), (1, .int (nI j0))]) hx hb dX6_best_46 rfl hl (by decide) rfl (fun ls hl => ?_)
          refine lv_iinc (v := nI (i + 1)) (lv' := [(3, .int (nI (i + 1))), (2, .int (nI b)), (0, .ref (ad (0))), (1, .int (nI j0))]) hx hb dX6_best_47 hl (k := 1) rfl (show nI (i) + 1 = nI (i + 1) from nI_1 _) (by decide) rfl (fun ls hl => ?_)
          refine lv_goto (tgt := 10) hx hb dX6_best_50 (by decide) ?_
          exact ih (i + 1) b _ _ _ (by omega) (by omega) (by omega) hv hP hS (lv_sub hl [0, 1, 2, 3] rfl)
        · have hv := hv.trans (if_neg c_3)
          refine lv_iload_n hx hb dX6_best_41 rfl (lv_at hl 0 rfl) ?_
          refine lv_goto (tgt := 46) hx hb dX6_best_42 (by decide) ?_
          refine lv_istore_n (lv' := [(2, .int (nI i)), (3, .int (nI i)), (0, .ref (ad (0))), (1, .int (nI j0))]) hx hb dX6_best_46 rfl hl (by decide) rfl (fun ls hl => ?_)
          refine lv_iinc (v := nI (i + 1)) (lv' := [(3, .int (nI (i + 1))), (2, .int (nI i)), (0, .ref (ad (0))), (1, .int (nI j0))]) hx hb dX6_best_47 hl (k := 1) rfl (show nI (i) + 1 = nI (i + 1) from nI_1 _) (by decide) rfl (fun ls hl => ?_)
          refine lv_goto (tgt := 10) hx hb dX6_best_50 (by decide) ?_
          exact ih (i + 1) i _ _ _ (by omega) (by omega) (by omega) hv hP hS (lv_sub hl [0, 1, 2, 3] rfl)
      · have hv := hv.trans (if_neg c_2)
        have hc_2 : ¬ i < (8 * j0) + (kn M (j0)) := fun h => c_2 (nI_lt h (by omega))
        refine lv_iload_n hx hb dX6_best_53 rfl (lv_at hl 1 rfl) ?_
        exact W.iret (v := nI b) hx hb hr (fun t ht hW => ⟨⟨_, M, rfl, ⟨hv.symm.trans eV, rfl⟩, by rw [ht]; exact hP, va_K.moved hW.alike hK⟩, hS.F ht⟩) hS.2.2 dX6_best_54
  exact L10 ((8 * j0 + kn M j0) + 1 - 8 * j0) (8 * j0) (8 * j0) _ _ _ (by omega) (by omega) (by omega) hv hP hS (lv_sub hl [0, 1, 2, 3] rfl)
