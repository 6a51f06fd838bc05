set_option maxHeartbeats 8000000 in
set_option maxRecDepth 100000 in
theorem law_loop {p : Program} {l : Launch} {e : Env} {s : State} {m : MethodId} {below : List Frame} {meth : Method} {c : Code} {b L : Nat} {xs : Nat → Int32} {dC : Nat → ClassId} {dI : Nat → Nat → Nat} {cA : Nat → ClassId} {ad am : Nat → Nat} {qo : Nat} (C : LCx p l s m c b L xs dC dI cA ad am qo) (hret : meth.sig.returnType = ret) (hlocks : meth.locks = false) {N : Nat} {I : Nat → Mem → Mem → Prop} (hLN : L ≤ N) (s0 : SP_0 N I) (s1 : SP_1 N I) (s2 : SP_2 N I) (s3 : SP_3 N I) (s4 : SP_4 N I) (s5 : SP_5 N I) (s6 : SP_6 N I) (s7 : SP_7 N I) (s8 : SP_8 N I) (s9 : SP_9 N I) (s10 : SP_10 N I) (s11 : SP_11 N I) (s12 : SP_12 N I) (s13 : SP_13 N I) (s14 : SP_14 N I) (s15 : SP_15 N I) (s16 : SP_16 N I) (s17 : SP_17 N I) (s18 : SP_18 N I) (s19 : SP_19 N I) (s20 : SP_20 N I) (s21 : SP_21 N I) (s22 : SP_22 N I) (s23 : SP_23 N I) (s24 : SP_24 N I) (s25 : SP_25 N I) (s26 : SP_26 N I) (s27 : SP_27 N I) (s28 : SP_28 N I) (s29 : SP_29 N I) (s30 : SP_30 N I) (s31 : SP_31 N I) (hDP : DP N I) (k30 : KP_30 N I) :
    ∀ (r n : Nat) (Mc Mm : Mem) (fo : Nat → Int64) (H : Heap) (locs : List Loc) (ls : Array Slot), n + r = 600 → 5 * n ≤ L → I (5 * n) Mc Mm → WFm Mm → LWx s H locs dC dI cA ad am qo Mc Mm fo → lv_has ls 8 [(4, .int (nI (5 * n))), (3, .ref qo), (2, .ref (am (0))), (1, .ref (ad (0))), (0, .ref b)] → W p l e room_1 s m #[Value.ref b] below meth c H locs (100 + 3 * n) (1000 + 18 * n) (lw_Z below #[Value.ref b] s) (F0 m 23 ls []) := by
  obtain ⟨hx, hb, hml, hown, hts, hK, hKX, hNC, hfl, hX, hbl, hL, -⟩ := id C
  have hbA : ¬ (fun q : Nat => s.heap.size ≤ q) b := Nat.not_le.mpr hbl
  intro r
  induction r with
  | zero =>
    intro n Mc Mm fo H locs ls hnr hnL
    omega
  | succ r ih =>
    intro n Mc Mm fo H locs ls hnr hnL hI hwm hW hl
    refine lv_iload hx hb dL_law_23 (lv_at hl 0 rfl) ?_
    refine lv_aload_n hx hb dL_law_25 rfl (lv_at hl 4 rfl) ?_
    refine va_slen hx hb hX hbl hbA hW.2.2.2 dL_law_26 ?_
    refine lv_iconst (v := 5) hx hb dL_law_27 (by decide) ?_
    refine lv_isub hx hb dL_law_28 ?_
    refine jI_gt (tgt := 886) hx hb dL_law_29 (by decide) (fun c1 => ?_) (fun c1 => ?_)
    · refine lv_iconst (v := 1) hx hb dL_law_886 (by decide) ?_
      refine va_forget hW.2.2.2.2.2 ?_
      refine W.widen (k := 633746) (n := 7194866) (by omega) (by omega) ?_
      exact lw_ret hx hb hret hlocks dL_law_887
    · have h5 : 5 * n + 5 ≤ L := lp_ge (by omega) (by omega) c1
      have h5N : 5 * n + 5 ≤ N := Nat.le_trans h5 hLN
      refine lv_aload_n hx hb dL_law_32 rfl (lv_at hl 4 rfl) ?_
      refine lv_iload hx hb dL_law_33 (lv_at hl 0 rfl) ?_
      refine va_sld hx hb hX hbl hbA hW.2.2.2 (vp_in_nI (n := 5 * n) (by omega) (by omega)) dL_law_35 ?_
      rw [nI_clamp (n := 5 * n) (by omega)]
      refine lv_bipush (v := 31) hx hb dL_law_36 (by decide) ?_
      refine lv_iand hx hb dL_law_38 ?_
      have fin : ∀ (Mc1 Mm1 : Mem), I (5 * n + 5) Mc1 Mm1 → ∀ (H : Heap) (locs : List Loc) (ls : Array Slot) (fo : Nat → Int64), LWx s H locs dC dI cA ad am qo Mc1 Mm1 fo → WFm Mm1 → lv_has ls 8 [(4, .int (nI (5 * n))), (3, .ref qo), (2, .ref (am (0))), (1, .ref (ad (0))), (0, .ref b)] → W p l e room_1 s m #[Value.ref b] below meth c H locs (100 + 3 * n + 3) (1000 + 18 * n + 18) (lw_Z below #[Value.ref b] s) (F0 m 880 ls []) := by
        intro Mc1 Mm1 hI1 H locs ls fo hW1 hwm1 hl1
        refine lv_iinc (v := nI (5 * (n + 1))) (lv' := [(4, .int (nI (5 * (n + 1)))), (3, .ref qo), (2, .ref (am (0))), (1, .ref (ad (0))), (0, .ref b)]) hx hb dL_law_880 hl1 (k := 0) rfl (show nI (5 * n) + 5 = nI (5 * (n + 1)) from nI_add (5 * n) 5) (by decide) rfl (fun ls hl => ?_)
        refine lv_goto (tgt := 23) hx hb dL_law_883 (by decide) ?_
        refine W.widen (k := 100 + 3 * (n + 1)) (n := 1000 + 18 * (n + 1)) (by omega) (by omega) ?_
        exact ih (n + 1) Mc1 Mm1 fo H locs ls (by omega) (by omega) hI1 hwm1 hW1 hl
      obtain ⟨k, hk, ek⟩ := a31_nI (xs (5 * n))
      rw [ek]
      rcases (show k = 0 ∨ k = 1 ∨ k = 2 ∨ k = 3 ∨ k = 4 ∨ k = 5 ∨ k = 6 ∨ k = 7 ∨ k = 8 ∨ k = 9 ∨ k = 10 ∨ k = 11 ∨ k = 12 ∨ k = 13 ∨ k = 14 ∨ k = 15 ∨ k = 16 ∨ k = 17 ∨ k = 18 ∨ k = 19 ∨ k = 20 ∨ k = 21 ∨ k = 22 ∨ k = 23 ∨ k = 24 ∨ k = 25 ∨ k = 26 ∨ k = 27 ∨ k = 28 ∨ k = 29 ∨ k = 30 ∨ k = 31 by omega) with rfl | rfl | rfl | rfl | rfl | rfl | rfl | rfl | rfl | rfl | rfl | rfl | rfl | rfl | rfl | rfl | rfl | rfl | rfl | rfl | rfl | rfl | rfl | rfl | rfl | rfl | rfl | rfl | rfl | rfl | rfl | rfl
      · refine lv_tableIn (off := 137) (tgt := 176) hx hb dL_law_39 (by decide) (by decide) rfl (by decide) ?_
        exact lc_0 C h5 ⟨by omega, by omega⟩ hW hwm hl (fin _ _ (s0 (5 * n) Mc Mm (xs (5 * n + 1)) h5N hwm hI))
      · refine lv_tableIn (off := 162) (tgt := 201) hx hb dL_law_39 (by decide) (by decide) rfl (by decide) ?_
        exact lc_1 C h5 ⟨by omega, by omega⟩ hW hwm hl (fin _ _ (s1 (5 * n) Mc Mm (xs (5 * n + 1)) h5N hwm hI))
      · refine lv_tableIn (off := 190) (tgt := 229) hx hb dL_law_39 (by decide) (by decide) rfl (by decide) ?_
        exact lc_2 C h5 ⟨by omega, by omega⟩ hW hwm hl (fin _ _ (s2 (5 * n) Mc Mm (xs (5 * n + 1)) h5N hwm hI))
      · refine lv_tableIn (off := 218) (tgt := 257) hx hb dL_law_39 (by decide) (by decide) rfl (by decide) ?_
        exact lc_3 C h5 ⟨by omega, by omega⟩ hW hwm hl (fin _ _ (s3 (5 * n) Mc Mm h5N hwm hI))
      · refine lv_tableIn (off := 231) (tgt := 270) hx hb dL_law_39 (by decide) (by decide) rfl (by decide) ?_
        exact lc_4 C h5 ⟨by omega, by omega⟩ hW hwm hl (fin _ _ (s4 (5 * n) Mc Mm h5N hwm hI))
      · refine lv_tableIn (off := 244) (tgt := 283) hx hb dL_law_39 (by decide) (by decide) rfl (by decide) ?_
        exact lc_5 C h5 ⟨by omega, by omega⟩ hW hwm hl (fin _ _ (s5 (5 * n) Mc Mm h5N hwm hI))
      · refine lv_tableIn (off := 257) (tgt := 296) hx hb dL_law_39 (by decide) (by decide) rfl (by decide) ?_
        exact lc_6 C h5 ⟨by omega, by omega⟩ hW hwm hl (fin _ _ (s6 (5 * n) Mc Mm h5N hwm hI))
      · refine lv_tableIn (off := 270) (tgt := 309) hx hb dL_law_39 (by decide) (by decide) rfl (by decide) ?_
        exact lc_7 C h5 ⟨by omega, by omega⟩ hW hwm hl (fin _ _ (s7 (5 * n) Mc Mm h5N hwm hI))
      · refine lv_tableIn (off := 283) (tgt := 322) hx hb dL_law_39 (by decide) (by decide) rfl (by decide) ?_
        exact lc_8 C h5 ⟨by omega, by omega⟩ hW hwm hl (fin _ _ (s8 (5 * n) Mc Mm (xs (5 * n + 1)) (xs (5 * n + 2)) h5N hwm hI))
      · refine lv_tableIn (off := 339) (tgt := 378) hx hb dL_law_39 (by decide) (by decide) rfl (by decide) ?_
        exact lc_9 C h5 ⟨by omega, by omega⟩ hW hwm hl (fin _ _ (s9 (5 * n) Mc Mm h5N hwm hI))
      · refine lv_tableIn (off := 352) (tgt := 391) hx hb dL_law_39 (by decide) (by decide) rfl (by decide) ?_
        exact lc_10 C h5 ⟨by omega, by omega⟩ hW hwm hl (fin _ _ (s10 (5 * n) Mc Mm (xs (5 * n + 1)) (xs (5 * n + 2)) (xs (5 * n + 3)) (xs (5 * n + 4)) h5N hwm hI))
      · refine lv_tableIn (off := 416) (tgt := 455) hx hb dL_law_39 (by decide) (by decide) rfl (by decide) ?_
        exact lc_11 C h5 ⟨by omega, by omega⟩ hW hwm hl (fin _ _ (s11 (5 * n) Mc Mm (xs (5 * n + 1)) (xs (5 * n + 2)) h5N hwm hI))
      · refine lv_tableIn (off := 456) (tgt := 495) hx hb dL_law_39 (by decide) (by decide) rfl (by decide) ?_
        exact lc_12 C h5 ⟨by omega, by omega⟩ hW hwm hl (fin _ _ (s12 (5 * n) Mc Mm (xs (5 * n + 1)) (xs (5 * n + 2)) (xs (5 * n + 3)) (xs (5 * n + 4)) h5N hwm hI))
      · refine lv_tableIn (off := 520) (tgt := 559) hx hb dL_law_39 (by decide) (by decide) rfl (by decide) ?_
        exact lc_13 C h5 ⟨by omega, by omega⟩ hW hwm hl (fin _ _ (s13 (5 * n) Mc Mm h5N hwm hI))
      · refine lv_tableIn (off := 533) (tgt := 572) hx hb dL_law_39 (by decide) (by decide) rfl (by decide) ?_
        exact lc_14 C h5 ⟨by omega, by omega⟩ hW hwm hl (fin _ _ (s14 (5 * n) Mc Mm (xs (5 * n + 1)) h5N hwm hI))
      · refine lv_tableIn (off := 561) (tgt := 600) hx hb dL_law_39 (by decide) (by decide) rfl (by decide) ?_
        exact lc_15 C h5 ⟨by omega, by omega⟩ hW hwm hl (fin _ _ (s15 (5 * n) Mc Mm (xs (5 * n + 1)) h5N hwm hI))
      · refine lv_tableIn (off := 589) (tgt := 628) hx hb dL_law_39 (by decide) (by decide) rfl (by decide) ?_
        exact lc_16 C h5 ⟨by omega, by omega⟩ hW hwm hl (fin _ _ (s16 (5 * n) Mc Mm (xs (5 * n + 1)) h5N hwm hI))
      · refine lv_tableIn (off := 617) (tgt := 656) hx hb dL_law_39 (by decide) (by decide) rfl (by decide) ?_
        exact lc_17 C h5 ⟨by omega, by omega⟩ hW hwm hl (fin _ _ (s17 (5 * n) Mc Mm (xs (5 * n + 1)) h5N hwm hI))
      · refine lv_tableIn (off := 645) (tgt := 684) hx hb dL_law_39 (by decide) (by decide) rfl (by decide) ?_
        exact lc_18 C h5 ⟨by omega, by omega⟩ hW hwm hl (fin _ _ (s18 (5 * n) Mc Mm (xs (5 * n + 1)) h5N hwm hI))
      · refine lv_tableIn (off := 673) (tgt := 712) hx hb dL_law_39 (by decide) (by decide) rfl (by decide) ?_
        exact lc_19 C h5 ⟨by omega, by omega⟩ hW hwm hl (fin _ _ (s19 (5 * n) Mc Mm h5N hwm hI))
      · refine lv_tableIn (off := 686) (tgt := 725) hx hb dL_law_39 (by decide) (by decide) rfl (by decide) ?_
        exact lc_20 C h5 ⟨by omega, by omega⟩ hW hwm hl (fin _ _ (s20 (5 * n) Mc Mm h5N hwm hI))
      · refine lv_tableIn (off := 699) (tgt := 738) hx hb dL_law_39 (by decide) (by decide) rfl (by decide) ?_
        exact lc_21 C h5 ⟨by omega, by omega⟩ hW hwm hl (fin _ _ (s21 (5 * n) Mc Mm h5N hwm hI))
      · refine lv_tableIn (off := 712) (tgt := 751) hx hb dL_law_39 (by decide) (by decide) rfl (by decide) ?_
        exact lc_22 C h5 ⟨by omega, by omega⟩ hW hwm hl (fin _ _ (s22 (5 * n) Mc Mm h5N hwm hI))
      · refine lv_tableIn (off := 728) (tgt := 767) hx hb dL_law_39 (by decide) (by decide) rfl (by decide) ?_
        exact lc_23 C h5 ⟨by omega, by omega⟩ hW hwm hl (fin _ _ (s23 (5 * n) Mc Mm h5N hwm hI))
      · refine lv_tableIn (off := 744) (tgt := 783) hx hb dL_law_39 (by decide) (by decide) rfl (by decide) ?_
        exact lc_24 C h5 ⟨by omega, by omega⟩ hW hwm hl (fin _ _ (s24 (5 * n) Mc Mm h5N hwm hI))
      · refine lv_tableIn (off := 757) (tgt := 796) hx hb dL_law_39 (by decide) (by decide) rfl (by decide) ?_
        exact lc_25 C h5 ⟨by omega, by omega⟩ hW hwm hl (hDP (5 * n) Mc Mm h5N hwm hI).1 (hDP (5 * n) Mc Mm h5N hwm hI).2.2 (fin _ _ (s25 (5 * n) Mc Mm h5N hwm hI))
      · refine lv_tableIn (off := 773) (tgt := 812) hx hb dL_law_39 (by decide) (by decide) rfl (by decide) ?_
        exact lc_26 C h5 ⟨by omega, by omega⟩ hW hwm hl (fin _ _ (s26 (5 * n) Mc Mm h5N hwm hI))
      · refine lv_tableIn (off := 786) (tgt := 825) hx hb dL_law_39 (by decide) (by decide) rfl (by decide) ?_
        exact lc_27 C h5 ⟨by omega, by omega⟩ hW hwm hl (hDP (5 * n) Mc Mm h5N hwm hI).2.1 (hDP (5 * n) Mc Mm h5N hwm hI).2.2 (fin _ _ (s27 (5 * n) Mc Mm h5N hwm hI))
      · refine lv_tableIn (off := 802) (tgt := 841) hx hb dL_law_39 (by decide) (by decide) rfl (by decide) ?_
        exact lc_28 C h5 ⟨by omega, by omega⟩ hW hwm hl (fin _ _ (s28 (5 * n) Mc Mm h5N hwm hI))
      · refine lv_tableIn (off := 815) (tgt := 854) hx hb dL_law_39 (by decide) (by decide) rfl (by decide) ?_
        exact lc_29 C h5 ⟨by omega, by omega⟩ hW hwm hl (fin _ _ (s29 (5 * n) Mc Mm h5N hwm hI))
      · refine lv_tableIn (off := 828) (tgt := 867) hx hb dL_law_39 (by decide) (by decide) rfl (by decide) ?_
        exact lc_30 C h5 ⟨by omega, by omega⟩ hW hwm hl (k30 (5 * n) Mc Mm h5N hwm hI) (fin _ _ (s30 (5 * n) Mc Mm h5N hwm hI))
      · refine lv_tableOut (tgt := 880) hx hb dL_law_39 (Or.inr (by decide)) (by decide) ?_
        refine W.widen (k := 100 + 3 * n + 3) (n := 1000 + 18 * n + 18) (by omega) (by omega) ?_
        exact fin _ _ (s31 (5 * n) Mc Mm h5N hwm hI) _ _ _ _ hW hwm hl
theorem WF0 : WFm M0m := ⟨⟨by decide, by decide⟩, fun j _ => ⟨by show (0 : Int32).toNatClampNeg ≤ 8; decide, by show (0 : Int32) = nI (0 : Int32).toNatClampNeg; decide⟩, fun j _ => Or.inl rfl, fun j _ => Or.inl rfl⟩
set_option maxHeartbeats 8000000 in
set_option maxRecDepth 100000 in
theorem law_from {p : Program} {l : Launch} {e : Env} {s : State} {m : MethodId} {below : List Frame} {meth : Method} {c : Code} {b L : Nat} {xs : Nat → Int32} (hflags : l.flags = flags0) (hL : L ≤ 2560) (C0 : lw_At p s m meth c b L xs) {N : Nat} {I : Nat → Mem → Mem → Prop} (hLN : L ≤ N) (s0 : SP_0 N I) (s1 : SP_1 N I) (s2 : SP_2 N I) (s3 : SP_3 N I) (s4 : SP_4 N I) (s5 : SP_5 N I) (s6 : SP_6 N I) (s7 : SP_7 N I) (s8 : SP_8 N I) (s9 : SP_9 N I) (s10 : SP_10 N I) (s11 : SP_11 N I) (s12 : SP_12 N I) (s13 : SP_13 N I) (s14 : SP_14 N I) (s15 : SP_15 N I) (s16 : SP_16 N I) (s17 : SP_17 N I) (s18 : SP_18 N I) (s19 : SP_19 N I) (s20 : SP_20 N I) (s21 : SP_21 N I) (s22 : SP_22 N I) (s23 : SP_23 N I) (s24 : SP_24 N I) (s25 : SP_25 N I) (s26 : SP_26 N I) (s27 : SP_27 N I) (s28 : SP_28 N I) (s29 : SP_29 N I) (s30 : SP_30 N I) (s31 : SP_31 N I) (hDP : DP N I) (k30 : KP_30 N I) (hI0 : I 0 (f_X5_begin M0c 0) M0m) : W p l e room_1 s m #[Value.ref b] below meth c s.heap [] 0 0 (lw_Z below #[Value.ref b] s) (entryFrame m ([Value.ref b] : List Value).toArray 8) := by
  obtain ⟨hx, hb, hr, hml, hown, hts0, hX, hbl, hlocks, hgv⟩ := C0
  have hts : ∀ w ∈ AG, w.before #[Value.ref b] s = true := fun w h => hts0 w (AG_tbl w h)
  have hs := flat_of_before _ hgv
  obtain ⟨dC, dI, cA, hK⟩ := K_start hts (hts0 _ (NG_tbl (.arrayOver (.object "Clockhouse$Server")) (by decide +kernel)))
  have hNG := NG_start hts0
  have hfl : l.stackTraces = false := by unfold Launch.stackTraces; rw [hflags]; decide
  have hKX : KX (fun q => s.heap.size ≤ q) s := ⟨vx_Zqof (hts0 (.laysStatic "java/lang/Throwable" "UNASSIGNED_STACK" "[Ljava/lang/StackTraceElement;") (by decide +kernel)) (hts0 (.initialized "java/lang/Throwable") (by decide +kernel)) (hs (.isRef (.static "java/lang/Throwable" "UNASSIGNED_STACK" "[Ljava/lang/StackTraceElement;")) (by decide +kernel)) (fun a h => Nat.not_le.mpr h), vx_Zqof (hts0 (.laysStatic "java/lang/Throwable" "SUPPRESSED_SENTINEL" "Ljava/util/List;") (by decide +kernel)) (hts0 (.initialized "java/lang/Throwable") (by decide +kernel)) (hs (.isRef (.static "java/lang/Throwable" "SUPPRESSED_SENTINEL" "Ljava/util/List;")) (by decide +kernel)) (fun a h => Nat.not_le.mpr h), hNG.1⟩
  have hNC : NCp s := by
    intro q hq
    simp only [exPairs, List.mem_cons, List.not_mem_nil, or_false] at hq
    rcases hq with rfl | rfl | rfl | rfl | rfl | rfl
    · exact va_Nc.of (hs _ (by decide +kernel))
    · exact va_Nc.of (hs _ (by decide +kernel))
    · exact va_Nc.of (hs _ (by decide +kernel))
    · exact va_Nc.of (hs _ (by decide +kernel))
    · exact va_Nc.of (hs _ (by decide +kernel))
    · exact va_Nc.of (hs _ (by decide +kernel))
  have hA : ∀ q : Nat, s.heap.size ≤ q → (fun q : Nat => s.heap.size ≤ q) q := fun _ h => h
  have hS : va_S (fun q : Nat => s.heap.size ≤ q) s.heap s.heap [] := va_S.rf
  have hP : va_P (dC, dI) vwCl [] s.heap := fun k q h => by simp at h
  have hD0 : va_D (fun q : Nat => s.heap.size ≤ q) [] := ⟨fun i j p q h => by simp at h, fun k q h => by simp at h⟩
  have hl := lv_entry ([.ref b]) (n := 8) (Nat.le_of_ble_eq_true rfl)
  rw [lg_entry_eq]
  generalize (lg_sl ([.ref b]) ++ List.replicate (8 - (lg_sl ([.ref b])).length) Slot.unset).toArray = ls at hl ⊢
  have hl : lv_has ls 8 [(0, .ref b)] := hl
  refine n_newP (S := Nat → Nat) (C := RX5) (ci := 5) (fs := [.null, .null, .null, .null, .int 0, .long 0, .int 0, .int 0, .int 0, .long 0]) (ws := []) (w1 := fun q0 (u : Nat → Nat) => wld 69 layC cA (ad0 q0 u) (f_X5_begin M0c 0)) hx hb hml hts in_X5 tyX5 tyX5_ok hown q_62 q_63 q_47 hK hP hD0 hS hA hNG rfl (by decide) (fun q sz => c_X5_init l dC dI cA q sz) q_66 rfl rfl q_64 q_65 hyX5_init rfl rfl ⟨(Nat.le_of_ble_eq_true rfl), (Nat.le_of_ble_eq_true rfl)⟩ hl.1 (Nat.le_of_ble_eq_true rfl) dL_law_0 dL_law_3 dL_law_4 (Nat.le_of_ble_eq_true rfl) (Nat.le_of_ble_eq_true rfl) (fun q0 u H locs hP hD0 hS => ?_)
  have hP : va_P (dC, dI) vwCl (wld 69 layC cA (ad0 q0 u) (f_X5_begin M0c 0)) H := hP
  have hD0 : va_D (fun q : Nat => s.heap.size ≤ q) (wld 69 layC cA (ad0 q0 u) (f_X5_begin M0c 0)) := hD0
  refine lv_astore_n (lv' := [(1, .ref q0), (0, .ref b)]) hx hb dL_law_7 rfl hl (by decide) rfl (fun ls hl => ?_)
  refine n_newP (S := Nat → Nat) (C := RX6) (ci := 6) (fs := [.int 0, .long 0, .long 0, .long 0, .int 0, .int 0, .int 0, .int 0, .int 0, .long 0, .null, .int 0, .null, .null, .null, .null, .null, .null, .null, .null, .int 0, .int 0, .long 0, .long 0, .null, .null]) (ws := (wld 69 layC cA (ad0 q0 u) (f_X5_begin M0c 0))) (w1 := fun q1 (v : Nat → Nat) => wld 12 layM cA (ad0 q1 v) M0m) hx hb hml hts in_X6 tyX6 tyX6_ok hown q_814 q_815 q_53 hK hP hD0 hS hA hNG rfl (by decide) (fun q sz => c_X6_init l dC dI cA q sz) q_818 rfl rfl q_816 q_817 hyX6_init rfl rfl ⟨(Nat.le_of_ble_eq_true rfl), (Nat.le_of_ble_eq_true rfl)⟩ hl.1 (Nat.le_of_ble_eq_true rfl) dL_law_8 dL_law_11 dL_law_12 (Nat.le_of_ble_eq_true rfl) (Nat.le_of_ble_eq_true rfl) (fun q1 v H locs hP hD0 hS => ?_)
  refine lv_astore_n (lv' := [(2, .ref q1), (1, .ref q0), (0, .ref b)]) hx hb dL_law_15 rfl hl (by decide) rfl (fun ls hl => ?_)
  refine lv_iconst (v := 1) hx hb dL_law_16 (by decide) ?_
  refine n_newa (ws := (wld 69 layC cA (ad0 q0 u) (f_X5_begin M0c 0)) ++ (wld 12 layM cA (ad0 q1 v) M0m)) (ty := .long) (k := 1) (a0 := (1, .inr (.inl (fun _ => 0)))) (N' := 1) hx hb (atype := .long) (hts _ q_120) rfl hK hP hD0 hS hA (fun _ => rfl) (by decide) (by decide) (by decide) rfl (Nat.le_of_ble_eq_true rfl) (Nat.le_of_ble_eq_true rfl) dL_law_17 (fun qo H hP hD hS => ?_)
  refine lv_astore_n (lv' := [(3, .ref qo), (2, .ref q1), (1, .ref q0), (0, .ref b)]) hx hb dL_law_19 rfl hl (by decide) rfl (fun ls hl => ?_)
  refine lv_iconst (v := 0) hx hb dL_law_20 (by decide) ?_
  refine lv_istore (lv' := [(4, .int 0), (3, .ref qo), (2, .ref q1), (1, .ref q0), (0, .ref b)]) hx hb dL_law_21 hl (by decide) rfl (fun ls hl => ?_)
  refine W.widen (k := 100 + 3 * 0) (n := 1000 + 18 * 0) (Nat.le_of_ble_eq_true rfl) (Nat.le_of_ble_eq_true rfl) ?_
  have hD1 := hD.left
  have hge : ∀ k, k < 69 → s.heap.size ≤ ad0 q0 u k := fun k hk => hD1.left.2 k _ (wld_at hk)
  have hgm : ∀ k, k < 12 → s.heap.size ≤ ad0 q1 v k := fun k hk => hD1.right.2 k _ (wld_at hk)
  have hgo : s.heap.size ≤ qo := hD.right.2 0 _ rfl
  have hap : ∀ k j, k < 69 → j < 12 → ad0 q0 u k ≠ ad0 q1 v j := fun k j hk hj => D_apart hD1 (wld_at hk) (wld_at hj)
  have hqc : ∀ k, k < 69 → qo ≠ ad0 q0 u k := fun k hk => (D_apart hD (at_left (wld_at hk)) (j := 0) rfl).symm
  have hqm : ∀ k, k < 12 → qo ≠ ad0 q1 v k := fun k hk => (D_apart hD (at_right (wld_at hk)) (j := 0) rfl).symm
  exact law_loop (ad := ad0 q0 u) (am := ad0 q1 v) (qo := qo) ⟨hx, hb, hml, hown, hts, hK, hKX, hNC, hfl, hX, hbl, hL, Inj_of hD1.left, Inj_of hD1.right, hge, hgm, hgo, hap, hqc, hqm⟩ hr hlocks hLN s0 s1 s2 s3 s4 s5 s6 s7 s8 s9 s10 s11 s12 s13 s14 s15 s16 s17 s18 s19 s20 s21 s22 s23 s24 s25 s26 s27 s28 s29 s30 s31 hDP k30 600 0 _ _ (fun _ => 0) _ _ _ (by omega) (by omega) hI0 WF0 ⟨hP.left.left, hP.left.right, hP.right, hS⟩ hl
