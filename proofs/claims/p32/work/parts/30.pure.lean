/-! what an invariant I of the two memories owes: a step a call (SP_k), the answers (KP_k); i counts the script -/
def cmpN (mp : Nat → Int32) (x : Nat × Int64 × Mem) (y : Int64 × Mem) : Prop := f_X6_thrown y.2 = (if x.1 = 0 then 0 else mp x.1) ∧ (x.1 = 0 → x.2.1 = y.1)
def cmpV (mp : Nat → Int32) (x : Nat × Mem) (y : Mem) : Prop := f_X6_thrown y = (if x.1 = 0 then 0 else mp x.1)
def toM (y : Int32 × Mem) : Int64 × Mem := (y.1.toInt64, y.2)
def SP_0 (N : Nat) (I : Nat → Mem → Mem → Prop) : Prop := ∀ (i : Nat) (Mc Mm : Mem) (x1 : Int32), i + 5 ≤ N → WFm Mm → I i Mc Mm → I (i + 5) ((f_X5_restart Mc x1).2) (f_X6_restart Mm x1)
def KP_0 (N : Nat) (I : Nat → Mem → Mem → Prop) : Prop := ∀ (i : Nat) (Mc Mm : Mem) (x1 : Int32), i + 5 ≤ N → WFm Mm → I i Mc Mm → cmpV (fun n => if n = 1 then 1 else 0) (f_X5_restart Mc x1) (f_X6_restart Mm x1)
def SP_1 (N : Nat) (I : Nat → Mem → Mem → Prop) : Prop := ∀ (i : Nat) (Mc Mm : Mem) (x1 : Int32), i + 5 ≤ N → WFm Mm → I i Mc Mm → I (i + 5) ((f_X5_pass Mc x1).2.2) ((f_X6_pass Mm x1).2)
def KP_1 (N : Nat) (I : Nat → Mem → Mem → Prop) : Prop := ∀ (i : Nat) (Mc Mm : Mem) (x1 : Int32), i + 5 ≤ N → WFm Mm → I i Mc Mm → cmpN (fun n => if n = 1 then 1 else if n = 2 then 2 else 0) (f_X5_pass Mc x1) (f_X6_pass Mm x1)
def SP_2 (N : Nat) (I : Nat → Mem → Mem → Prop) : Prop := ∀ (i : Nat) (Mc Mm : Mem) (x1 : Int32), i + 5 ≤ N → WFm Mm → I i Mc Mm → I (i + 5) ((f_X5_setDrift Mc x1).2.2) ((f_X6_setDrift Mm x1).2)
def KP_2 (N : Nat) (I : Nat → Mem → Mem → Prop) : Prop := ∀ (i : Nat) (Mc Mm : Mem) (x1 : Int32), i + 5 ≤ N → WFm Mm → I i Mc Mm → cmpN (fun n => if n = 1 then 1 else 0) (toJ (f_X5_setDrift Mc x1)) (toM (f_X6_setDrift Mm x1))
def SP_3 (N : Nat) (I : Nat → Mem → Mem → Prop) : Prop := ∀ (i : Nat) (Mc Mm : Mem), i + 5 ≤ N → WFm Mm → I i Mc Mm → I (i + 5) Mc ((f_X6_trueTime Mm).2)
def KP_3 (N : Nat) (I : Nat → Mem → Mem → Prop) : Prop := ∀ (i : Nat) (Mc Mm : Mem), i + 5 ≤ N → WFm Mm → I i Mc Mm → f_X5_trueTime Mc = (f_X6_trueTime Mm).1
def SP_4 (N : Nat) (I : Nat → Mem → Mem → Prop) : Prop := ∀ (i : Nat) (Mc Mm : Mem), i + 5 ≤ N → WFm Mm → I i Mc Mm → I (i + 5) Mc ((f_X6_clock Mm).2)
def KP_4 (N : Nat) (I : Nat → Mem → Mem → Prop) : Prop := ∀ (i : Nat) (Mc Mm : Mem), i + 5 ≤ N → WFm Mm → I i Mc Mm → f_X5_clock Mc = (f_X6_clock Mm).1
def SP_5 (N : Nat) (I : Nat → Mem → Mem → Prop) : Prop := ∀ (i : Nat) (Mc Mm : Mem), i + 5 ≤ N → WFm Mm → I i Mc Mm → I (i + 5) Mc ((f_X6_error Mm).2)
def KP_5 (N : Nat) (I : Nat → Mem → Mem → Prop) : Prop := ∀ (i : Nat) (Mc Mm : Mem), i + 5 ≤ N → WFm Mm → I i Mc Mm → f_X5_error Mc = (f_X6_error Mm).1
def SP_6 (N : Nat) (I : Nat → Mem → Mem → Prop) : Prop := ∀ (i : Nat) (Mc Mm : Mem), i + 5 ≤ N → WFm Mm → I i Mc Mm → I (i + 5) Mc ((f_X6_pendingSlew Mm).2)
def KP_6 (N : Nat) (I : Nat → Mem → Mem → Prop) : Prop := ∀ (i : Nat) (Mc Mm : Mem), i + 5 ≤ N → WFm Mm → I i Mc Mm → f_X5_pendingSlew Mc = (f_X6_pendingSlew Mm).1
def SP_7 (N : Nat) (I : Nat → Mem → Mem → Prop) : Prop := ∀ (i : Nat) (Mc Mm : Mem), i + 5 ≤ N → WFm Mm → I i Mc Mm → I (i + 5) Mc ((f_X6_correction Mm).2)
def KP_7 (N : Nat) (I : Nat → Mem → Mem → Prop) : Prop := ∀ (i : Nat) (Mc Mm : Mem), i + 5 ≤ N → WFm Mm → I i Mc Mm → f_X5_correction Mc = (f_X6_correction Mm).1
def SP_8 (N : Nat) (I : Nat → Mem → Mem → Prop) : Prop := ∀ (i : Nat) (Mc Mm : Mem) (x1 : Int32) (x2 : Int32), i + 5 ≤ N → WFm Mm → I i Mc Mm → I (i + 5) ((f_X5_announceLeap Mc x1 (if x2 = 0 then 0 else 1)).2.2) ((f_X6_announceLeap Mm x1 (if x2 = 0 then 0 else 1)).2)
def KP_8 (N : Nat) (I : Nat → Mem → Mem → Prop) : Prop := ∀ (i : Nat) (Mc Mm : Mem) (x1 : Int32) (x2 : Int32), i + 5 ≤ N → WFm Mm → I i Mc Mm → cmpN (fun n => if n = 1 then 1 else if n = 2 then 2 else 0) (f_X5_announceLeap Mc x1 (if x2 = 0 then 0 else 1)) (f_X6_announceLeap Mm x1 (if x2 = 0 then 0 else 1))
def SP_9 (N : Nat) (I : Nat → Mem → Mem → Prop) : Prop := ∀ (i : Nat) (Mc Mm : Mem), i + 5 ≤ N → WFm Mm → I i Mc Mm → I (i + 5) Mc ((f_X6_civil Mm).2)
def KP_9 (N : Nat) (I : Nat → Mem → Mem → Prop) : Prop := ∀ (i : Nat) (Mc Mm : Mem), i + 5 ≤ N → WFm Mm → I i Mc Mm → f_X5_civil Mc = (f_X6_civil Mm).1
def SP_10 (N : Nat) (I : Nat → Mem → Mem → Prop) : Prop := ∀ (i : Nat) (Mc Mm : Mem) (x1 : Int32) (x2 : Int32) (x3 : Int32) (x4 : Int32), i + 5 ≤ N → WFm Mm → I i Mc Mm → I (i + 5) ((f_X5_addServer Mc x1 x2 x3 x4).2.2) ((f_X6_addServer Mm x1 x2 x3 x4).2)
def KP_10 (N : Nat) (I : Nat → Mem → Mem → Prop) : Prop := ∀ (i : Nat) (Mc Mm : Mem) (x1 : Int32) (x2 : Int32) (x3 : Int32) (x4 : Int32), i + 5 ≤ N → WFm Mm → I i Mc Mm → cmpN (fun n => if n = 1 then 1 else if n = 2 then 2 else 0) (toJ (f_X5_addServer Mc x1 x2 x3 x4)) (toM (f_X6_addServer Mm x1 x2 x3 x4))
def SP_11 (N : Nat) (I : Nat → Mem → Mem → Prop) : Prop := ∀ (i : Nat) (Mc Mm : Mem) (x1 : Int32) (x2 : Int32), i + 5 ≤ N → WFm Mm → I i Mc Mm → I (i + 5) ((f_X5_setError Mc x1 x2).2.2) ((f_X6_setError Mm x1 x2).2)
def KP_11 (N : Nat) (I : Nat → Mem → Mem → Prop) : Prop := ∀ (i : Nat) (Mc Mm : Mem) (x1 : Int32) (x2 : Int32), i + 5 ≤ N → WFm Mm → I i Mc Mm → cmpN (fun n => if n = 3 then 1 else if n = 1 then 2 else 0) (toJ (f_X5_setError Mc x1 x2)) (toM (f_X6_setError Mm x1 x2))
def SP_12 (N : Nat) (I : Nat → Mem → Mem → Prop) : Prop := ∀ (i : Nat) (Mc Mm : Mem) (x1 : Int32) (x2 : Int32) (x3 : Int32) (x4 : Int32), i + 5 ≤ N → WFm Mm → I i Mc Mm → I (i + 5) ((f_X5_exchange Mc x1 x2 x3 x4).2.2) ((f_X6_exchange Mm x1 x2 x3 x4).2)
def KP_12 (N : Nat) (I : Nat → Mem → Mem → Prop) : Prop := ∀ (i : Nat) (Mc Mm : Mem) (x1 : Int32) (x2 : Int32) (x3 : Int32) (x4 : Int32), i + 5 ≤ N → WFm Mm → I i Mc Mm → cmpN (fun n => if n = 3 then 1 else if n = 1 then 2 else if n = 2 then 3 else 0) (f_X5_exchange Mc x1 x2 x3 x4) (f_X6_exchange Mm x1 x2 x3 x4)
def SP_13 (N : Nat) (I : Nat → Mem → Mem → Prop) : Prop := ∀ (i : Nat) (Mc Mm : Mem), i + 5 ≤ N → WFm Mm → I i Mc Mm → I (i + 5) Mc ((f_X6_servers Mm).2)
def KP_13 (N : Nat) (I : Nat → Mem → Mem → Prop) : Prop := ∀ (i : Nat) (Mc Mm : Mem), i + 5 ≤ N → WFm Mm → I i Mc Mm → f_X5_servers Mc = (f_X6_servers Mm).1
def SP_14 (N : Nat) (I : Nat → Mem → Mem → Prop) : Prop := ∀ (i : Nat) (Mc Mm : Mem) (x1 : Int32), i + 5 ≤ N → WFm Mm → I i Mc Mm → I (i + 5) ((f_X5_samples Mc x1).2.2) ((f_X6_samples Mm x1).2)
def KP_14 (N : Nat) (I : Nat → Mem → Mem → Prop) : Prop := ∀ (i : Nat) (Mc Mm : Mem) (x1 : Int32), i + 5 ≤ N → WFm Mm → I i Mc Mm → cmpN (fun n => if n = 3 then 1 else 0) (toJ (f_X5_samples Mc x1)) (toM (f_X6_samples Mm x1))
def SP_15 (N : Nat) (I : Nat → Mem → Mem → Prop) : Prop := ∀ (i : Nat) (Mc Mm : Mem) (x1 : Int32), i + 5 ≤ N → WFm Mm → I i Mc Mm → I (i + 5) ((f_X5_offset Mc x1).2.2) ((f_X6_offset Mm x1).2)
def KP_15 (N : Nat) (I : Nat → Mem → Mem → Prop) : Prop := ∀ (i : Nat) (Mc Mm : Mem) (x1 : Int32), i + 5 ≤ N → WFm Mm → I i Mc Mm → cmpN (fun n => if n = 3 then 1 else if n = 2 then 2 else 0) (f_X5_offset Mc x1) (f_X6_offset Mm x1)
def SP_16 (N : Nat) (I : Nat → Mem → Mem → Prop) : Prop := ∀ (i : Nat) (Mc Mm : Mem) (x1 : Int32), i + 5 ≤ N → WFm Mm → I i Mc Mm → I (i + 5) ((f_X5_delay Mc x1).2.2) ((f_X6_delay Mm x1).2)
def KP_16 (N : Nat) (I : Nat → Mem → Mem → Prop) : Prop := ∀ (i : Nat) (Mc Mm : Mem) (x1 : Int32), i + 5 ≤ N → WFm Mm → I i Mc Mm → cmpN (fun n => if n = 3 then 1 else if n = 2 then 2 else 0) (f_X5_delay Mc x1) (f_X6_delay Mm x1)
def SP_17 (N : Nat) (I : Nat → Mem → Mem → Prop) : Prop := ∀ (i : Nat) (Mc Mm : Mem) (x1 : Int32), i + 5 ≤ N → WFm Mm → I i Mc Mm → I (i + 5) ((f_X5_jitter Mc x1).2.2) ((f_X6_jitter Mm x1).2)
def KP_17 (N : Nat) (I : Nat → Mem → Mem → Prop) : Prop := ∀ (i : Nat) (Mc Mm : Mem) (x1 : Int32), i + 5 ≤ N → WFm Mm → I i Mc Mm → cmpN (fun n => if n = 3 then 1 else if n = 2 then 2 else 0) (f_X5_jitter Mc x1) (f_X6_jitter Mm x1)
def SP_18 (N : Nat) (I : Nat → Mem → Mem → Prop) : Prop := ∀ (i : Nat) (Mc Mm : Mem) (x1 : Int32), i + 5 ≤ N → WFm Mm → I i Mc Mm → I (i + 5) ((f_X5_distance Mc x1).2.2) ((f_X6_distance Mm x1).2)
def KP_18 (N : Nat) (I : Nat → Mem → Mem → Prop) : Prop := ∀ (i : Nat) (Mc Mm : Mem) (x1 : Int32), i + 5 ≤ N → WFm Mm → I i Mc Mm → cmpN (fun n => if n = 3 then 1 else if n = 2 then 2 else 0) (f_X5_distance Mc x1) (f_X6_distance Mm x1)
def SP_19 (N : Nat) (I : Nat → Mem → Mem → Prop) : Prop := ∀ (i : Nat) (Mc Mm : Mem), i + 5 ≤ N → WFm Mm → I i Mc Mm → I (i + 5) ((f_X5_agreement Mc).2) ((f_X6_agreement Mm).2)
def KP_19 (N : Nat) (I : Nat → Mem → Mem → Prop) : Prop := ∀ (i : Nat) (Mc Mm : Mem), i + 5 ≤ N → WFm Mm → I i Mc Mm → (f_X5_agreement Mc).1 = (f_X6_agreement Mm).1
def SP_20 (N : Nat) (I : Nat → Mem → Mem → Prop) : Prop := ∀ (i : Nat) (Mc Mm : Mem), i + 5 ≤ N → WFm Mm → I i Mc Mm → I (i + 5) ((f_X5_hasMajority Mc).2) ((f_X6_hasMajority Mm).2)
def KP_20 (N : Nat) (I : Nat → Mem → Mem → Prop) : Prop := ∀ (i : Nat) (Mc Mm : Mem), i + 5 ≤ N → WFm Mm → I i Mc Mm → (f_X5_hasMajority Mc).1 = (f_X6_hasMajority Mm).1
def SP_21 (N : Nat) (I : Nat → Mem → Mem → Prop) : Prop := ∀ (i : Nat) (Mc Mm : Mem), i + 5 ≤ N → WFm Mm → I i Mc Mm → I (i + 5) ((f_X5_agreeing Mc).2) ((f_X6_agreeing Mm).2)
def KP_21 (N : Nat) (I : Nat → Mem → Mem → Prop) : Prop := ∀ (i : Nat) (Mc Mm : Mem), i + 5 ≤ N → WFm Mm → I i Mc Mm → (f_X5_agreeing Mc).1 = (f_X6_agreeing Mm).1
def SP_22 (N : Nat) (I : Nat → Mem → Mem → Prop) : Prop := ∀ (i : Nat) (Mc Mm : Mem), i + 5 ≤ N → WFm Mm → I i Mc Mm → I (i + 5) ((f_X5_low Mc).2.2) ((f_X6_low Mm).2)
def KP_22 (N : Nat) (I : Nat → Mem → Mem → Prop) : Prop := ∀ (i : Nat) (Mc Mm : Mem), i + 5 ≤ N → WFm Mm → I i Mc Mm → cmpN (fun n => if n = 2 then 1 else 0) (f_X5_low Mc) (f_X6_low Mm)
def SP_23 (N : Nat) (I : Nat → Mem → Mem → Prop) : Prop := ∀ (i : Nat) (Mc Mm : Mem), i + 5 ≤ N → WFm Mm → I i Mc Mm → I (i + 5) ((f_X5_high Mc).2.2) ((f_X6_high Mm).2)
def KP_23 (N : Nat) (I : Nat → Mem → Mem → Prop) : Prop := ∀ (i : Nat) (Mc Mm : Mem), i + 5 ≤ N → WFm Mm → I i Mc Mm → cmpN (fun n => if n = 2 then 1 else 0) (f_X5_high Mc) (f_X6_high Mm)
def SP_24 (N : Nat) (I : Nat → Mem → Mem → Prop) : Prop := ∀ (i : Nat) (Mc Mm : Mem), i + 5 ≤ N → WFm Mm → I i Mc Mm → I (i + 5) ((f_X5_survivors Mc).2) ((f_X6_survivors Mm).2)
def KP_24 (N : Nat) (I : Nat → Mem → Mem → Prop) : Prop := ∀ (i : Nat) (Mc Mm : Mem), i + 5 ≤ N → WFm Mm → I i Mc Mm → (f_X5_survivors Mc).1 = (f_X6_survivors Mm).1
def SP_25 (N : Nat) (I : Nat → Mem → Mem → Prop) : Prop := ∀ (i : Nat) (Mc Mm : Mem), i + 5 ≤ N → WFm Mm → I i Mc Mm → I (i + 5) ((f_X5_combinedOffset Mc).2.2) ((f_X6_combinedOffset Mm).2)
def KP_25 (N : Nat) (I : Nat → Mem → Mem → Prop) : Prop := ∀ (i : Nat) (Mc Mm : Mem), i + 5 ≤ N → WFm Mm → I i Mc Mm → cmpN (fun n => if n = 2 then 1 else 0) (f_X5_combinedOffset Mc) (f_X6_combinedOffset Mm)
def SP_26 (N : Nat) (I : Nat → Mem → Mem → Prop) : Prop := ∀ (i : Nat) (Mc Mm : Mem), i + 5 ≤ N → WFm Mm → I i Mc Mm → I (i + 5) ((f_X5_peer Mc).2) ((f_X6_peer Mm).2)
def KP_26 (N : Nat) (I : Nat → Mem → Mem → Prop) : Prop := ∀ (i : Nat) (Mc Mm : Mem), i + 5 ≤ N → WFm Mm → I i Mc Mm → (f_X5_peer Mc).1 = (f_X6_peer Mm).1
def SP_27 (N : Nat) (I : Nat → Mem → Mem → Prop) : Prop := ∀ (i : Nat) (Mc Mm : Mem), i + 5 ≤ N → WFm Mm → I i Mc Mm → I (i + 5) ((f_X5_synchronize Mc).2.2) ((f_X6_synchronize Mm).2)
def KP_27 (N : Nat) (I : Nat → Mem → Mem → Prop) : Prop := ∀ (i : Nat) (Mc Mm : Mem), i + 5 ≤ N → WFm Mm → I i Mc Mm → cmpN (fun n => if n = 2 then 1 else 0) (toJ (f_X5_synchronize Mc)) (toM (f_X6_synchronize Mm))
def SP_28 (N : Nat) (I : Nat → Mem → Mem → Prop) : Prop := ∀ (i : Nat) (Mc Mm : Mem), i + 5 ≤ N → WFm Mm → I i Mc Mm → I (i + 5) Mc ((f_X6_stratum Mm).2)
def KP_28 (N : Nat) (I : Nat → Mem → Mem → Prop) : Prop := ∀ (i : Nat) (Mc Mm : Mem), i + 5 ≤ N → WFm Mm → I i Mc Mm → f_X5_stratum Mc = (f_X6_stratum Mm).1
def SP_29 (N : Nat) (I : Nat → Mem → Mem → Prop) : Prop := ∀ (i : Nat) (Mc Mm : Mem), i + 5 ≤ N → WFm Mm → I i Mc Mm → I (i + 5) Mc ((f_X6_steps Mm).2)
def KP_29 (N : Nat) (I : Nat → Mem → Mem → Prop) : Prop := ∀ (i : Nat) (Mc Mm : Mem), i + 5 ≤ N → WFm Mm → I i Mc Mm → f_X5_steps Mc = (f_X6_steps Mm).1
def SP_30 (N : Nat) (I : Nat → Mem → Mem → Prop) : Prop := ∀ (i : Nat) (Mc Mm : Mem), i + 5 ≤ N → WFm Mm → I i Mc Mm → I (i + 5) Mc ((f_X6_synchronizations Mm).2)
def KP_30 (N : Nat) (I : Nat → Mem → Mem → Prop) : Prop := ∀ (i : Nat) (Mc Mm : Mem), i + 5 ≤ N → WFm Mm → I i Mc Mm → f_X5_synchronizations Mc = (f_X6_synchronizations Mm).1
def SP_31 (N : Nat) (I : Nat → Mem → Mem → Prop) : Prop := ∀ (i : Nat) (Mc Mm : Mem), i + 5 ≤ N → WFm Mm → I i Mc Mm → I (i + 5) Mc Mm
def DH_25 (M : Mem) : Prop := ∀ M1 : Mem, M1 = f_X6_select M → ¬ gI M1 7 = 0 → ∃ j, j < 8 ∧ ¬ gB M1 7 j = 0
def DH_27 (M : Mem) : Prop := ∀ M1 : Mem, M1 = f_X6_select M → gI M1 7 < 2 * gI M1 8 → ∃ j, j < 8 ∧ ¬ gB M1 7 j = 0
def DD (M : Mem) : Prop := ∀ (M1 M2 : Mem) (r : Int32), M1 = f_X6_select M → (r, M2) = f_X6_refused M1 0 → ∀ j, j < 8 → ¬ gB M2 7 j = 0 → ¬ f_X6_distanceOf M2 j + 1 = 0
def DP (N : Nat) (I : Nat → Mem → Mem → Prop) : Prop := ∀ (i : Nat) (Mc Mm : Mem), i + 5 ≤ N → WFm Mm → I i Mc Mm → DH_25 Mm ∧ DH_27 Mm ∧ DD Mm
