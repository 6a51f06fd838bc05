section
-- ===== PART A: goes FIRST, ahead of the names: the tables' words, and 'selects' of the private methods out of them =====
/-- a private method of a class that the tables say can be made, by its rows of tables_1 -/
def lw_okq (q : MethodName × Nat) : Prop := (q.1.cls ≠ "java/lang/invoke/MethodHandle" ∧ q.1.cls ≠ "java/lang/invoke/VarHandle") ∧ Cond.instantiable q.1.cls q.2 ∈ tables_1 ∧ Cond.privateMethod q.1 ∈ tables_1 ∧ Cond.instanceMethod q.1 ∈ tables_1
theorem lw_p0 : lw_okq (⟨"Clockhouse", "begin", "(I)V"⟩, 10) := ⟨⟨by decide +kernel, by decide +kernel⟩, List.mem_of_getElem? (i := 17) (by decide +kernel), List.mem_of_getElem? (i := 139) (by decide +kernel), List.mem_of_getElem? (i := 140) (by decide +kernel)⟩
theorem lw_p1 : lw_okq (⟨"Clockhouse", "select", "()V"⟩, 10) := ⟨⟨by decide +kernel, by decide +kernel⟩, List.mem_of_getElem? (i := 17) (by decide +kernel), List.mem_of_getElem? (i := 247) (by decide +kernel), List.mem_of_getElem? (i := 248) (by decide +kernel)⟩
theorem lw_p2 : lw_okq (⟨"Clockhouse", "serverOrNull", "(I)LClockhouse$Server;"⟩, 10) := ⟨⟨by decide +kernel, by decide +kernel⟩, List.mem_of_getElem? (i := 17) (by decide +kernel), List.mem_of_getElem? (i := 255) (by decide +kernel), List.mem_of_getElem? (i := 256) (by decide +kernel)⟩
theorem lw_p3 : lw_okq (⟨"Clockhouse", "roomOrNull", "(I)LClockhouse$Server;"⟩, 10) := ⟨⟨by decide +kernel, by decide +kernel⟩, List.mem_of_getElem? (i := 17) (by decide +kernel), List.mem_of_getElem? (i := 259) (by decide +kernel), List.mem_of_getElem? (i := 260) (by decide +kernel)⟩
theorem lw_p4 : lw_okq (⟨"Clockhouse$Selection", "tryLowEnd", "(J)V"⟩, 9) := ⟨⟨by decide +kernel, by decide +kernel⟩, List.mem_of_getElem? (i := 59) (by decide +kernel), List.mem_of_getElem? (i := 315) (by decide +kernel), List.mem_of_getElem? (i := 316) (by decide +kernel)⟩
theorem lw_p5 : lw_okq (⟨"Clockhouse$Selection", "intervalsWith", "(J)I"⟩, 9) := ⟨⟨by decide +kernel, by decide +kernel⟩, List.mem_of_getElem? (i := 59) (by decide +kernel), List.mem_of_getElem? (i := 319) (by decide +kernel), List.mem_of_getElem? (i := 320) (by decide +kernel)⟩
theorem lw_p6 : lw_okq (⟨"Clockhouse$Selection", "leastUpperEnd", "()J"⟩, 9) := ⟨⟨by decide +kernel, by decide +kernel⟩, List.mem_of_getElem? (i := 59) (by decide +kernel), List.mem_of_getElem? (i := 330) (by decide +kernel), List.mem_of_getElem? (i := 331) (by decide +kernel)⟩
theorem lw_p7 : lw_okq (⟨"Clockhouse$Selection", "widestSpread", "()I"⟩, 9) := ⟨⟨by decide +kernel, by decide +kernel⟩, List.mem_of_getElem? (i := 59) (by decide +kernel), List.mem_of_getElem? (i := 338) (by decide +kernel), List.mem_of_getElem? (i := 339) (by decide +kernel)⟩
theorem lw_p8 : lw_okq (⟨"Clockhouse$Selection", "spread", "(I)J"⟩, 9) := ⟨⟨by decide +kernel, by decide +kernel⟩, List.mem_of_getElem? (i := 59) (by decide +kernel), List.mem_of_getElem? (i := 342) (by decide +kernel), List.mem_of_getElem? (i := 343) (by decide +kernel)⟩
theorem lw_p9 : lw_okq (⟨"Clockhouse$Selection", "leastJitter", "()J"⟩, 9) := ⟨⟨by decide +kernel, by decide +kernel⟩, List.mem_of_getElem? (i := 59) (by decide +kernel), List.mem_of_getElem? (i := 346) (by decide +kernel), List.mem_of_getElem? (i := 347) (by decide +kernel)⟩
theorem lw_p10 : lw_okq (⟨"Clockhouse$Selection", "isBetter", "(II)Z"⟩, 9) := ⟨⟨by decide +kernel, by decide +kernel⟩, List.mem_of_getElem? (i := 59) (by decide +kernel), List.mem_of_getElem? (i := 387) (by decide +kernel), List.mem_of_getElem? (i := 388) (by decide +kernel)⟩
theorem lw_p11 : lw_okq (⟨"java/lang/Throwable", "fillInStackTrace", "(I)Ljava/lang/Throwable;"⟩, 6) := ⟨⟨by decide +kernel, by decide +kernel⟩, List.mem_of_getElem? (i := 454) (by decide +kernel), List.mem_of_getElem? (i := 452) (by decide +kernel), List.mem_of_getElem? (i := 453) (by decide +kernel)⟩
theorem lw_p12 : lw_okq (⟨"Clockhouse", "isBeyondLastTrueTime", "(J)Z"⟩, 10) := ⟨⟨by decide +kernel, by decide +kernel⟩, List.mem_of_getElem? (i := 17) (by decide +kernel), List.mem_of_getElem? (i := 487) (by decide +kernel), List.mem_of_getElem? (i := 488) (by decide +kernel)⟩
theorem lw_p13 : lw_okq (⟨"Clockhouse", "elapse", "(I)V"⟩, 10) := ⟨⟨by decide +kernel, by decide +kernel⟩, List.mem_of_getElem? (i := 17) (by decide +kernel), List.mem_of_getElem? (i := 507) (by decide +kernel), List.mem_of_getElem? (i := 508) (by decide +kernel)⟩
theorem lw_p14 : lw_okq (⟨"Clockhouse", "knownServer", "(I)LClockhouse$Server;"⟩, 10) := ⟨⟨by decide +kernel, by decide +kernel⟩, List.mem_of_getElem? (i := 17) (by decide +kernel), List.mem_of_getElem? (i := 577) (by decide +kernel), List.mem_of_getElem? (i := 578) (by decide +kernel)⟩
theorem lw_p15 : lw_okq (⟨"Clockhouse", "takeSample", "(LClockhouse$Server;III)J"⟩, 10) := ⟨⟨by decide +kernel, by decide +kernel⟩, List.mem_of_getElem? (i := 17) (by decide +kernel), List.mem_of_getElem? (i := 609) (by decide +kernel), List.mem_of_getElem? (i := 610) (by decide +kernel)⟩
def lw_privs_1 : List (MethodName × Nat) := [(⟨"Clockhouse", "begin", "(I)V"⟩, 10), (⟨"Clockhouse", "select", "()V"⟩, 10), (⟨"Clockhouse", "serverOrNull", "(I)LClockhouse$Server;"⟩, 10), (⟨"Clockhouse", "roomOrNull", "(I)LClockhouse$Server;"⟩, 10), (⟨"Clockhouse$Selection", "tryLowEnd", "(J)V"⟩, 9), (⟨"Clockhouse$Selection", "intervalsWith", "(J)I"⟩, 9), (⟨"Clockhouse$Selection", "leastUpperEnd", "()J"⟩, 9), (⟨"Clockhouse$Selection", "widestSpread", "()I"⟩, 9), (⟨"Clockhouse$Selection", "spread", "(I)J"⟩, 9), (⟨"Clockhouse$Selection", "leastJitter", "()J"⟩, 9), (⟨"Clockhouse$Selection", "isBetter", "(II)Z"⟩, 9), (⟨"java/lang/Throwable", "fillInStackTrace", "(I)Ljava/lang/Throwable;"⟩, 6), (⟨"Clockhouse", "isBeyondLastTrueTime", "(J)Z"⟩, 10), (⟨"Clockhouse", "elapse", "(I)V"⟩, 10), (⟨"Clockhouse", "knownServer", "(I)LClockhouse$Server;"⟩, 10), (⟨"Clockhouse", "takeSample", "(LClockhouse$Server;III)J"⟩, 10)]
theorem lw_r1 : ∀ q ∈ lw_privs_1, lw_okq q := List.forall_mem_cons.mpr ⟨lw_p0, List.forall_mem_cons.mpr ⟨lw_p1, List.forall_mem_cons.mpr ⟨lw_p2, List.forall_mem_cons.mpr ⟨lw_p3, List.forall_mem_cons.mpr ⟨lw_p4, List.forall_mem_cons.mpr ⟨lw_p5, List.forall_mem_cons.mpr ⟨lw_p6, List.forall_mem_cons.mpr ⟨lw_p7, List.forall_mem_cons.mpr ⟨lw_p8, List.forall_mem_cons.mpr ⟨lw_p9, List.forall_mem_cons.mpr ⟨lw_p10, List.forall_mem_cons.mpr ⟨lw_p11, List.forall_mem_cons.mpr ⟨lw_p12, List.forall_mem_cons.mpr ⟨lw_p13, List.forall_mem_cons.mpr ⟨lw_p14, List.forall_mem_cons.mpr ⟨lw_p15, fun _ h => absurd h List.not_mem_nil⟩⟩⟩⟩⟩⟩⟩⟩⟩⟩⟩⟩⟩⟩⟩⟩
theorem lw_p16 : lw_okq (⟨"Clockhouse$Server", "leastDelay", "()I"⟩, 9) := ⟨⟨by decide +kernel, by decide +kernel⟩, List.mem_of_getElem? (i := 103) (by decide +kernel), List.mem_of_getElem? (i := 633) (by decide +kernel), List.mem_of_getElem? (i := 634) (by decide +kernel)⟩
theorem lw_p17 : lw_okq (⟨"Clockhouse", "heardServer", "(I)LClockhouse$Server;"⟩, 10) := ⟨⟨by decide +kernel, by decide +kernel⟩, List.mem_of_getElem? (i := 17) (by decide +kernel), List.mem_of_getElem? (i := 651) (by decide +kernel), List.mem_of_getElem? (i := 652) (by decide +kernel)⟩
theorem lw_p18 : lw_okq (⟨"Clockhouse", "selectFromSome", "()V"⟩, 10) := ⟨⟨by decide +kernel, by decide +kernel⟩, List.mem_of_getElem? (i := 17) (by decide +kernel), List.mem_of_getElem? (i := 687) (by decide +kernel), List.mem_of_getElem? (i := 688) (by decide +kernel)⟩
theorem lw_p19 : lw_okq (⟨"Clockhouse$Selection", "weight", "(I)J"⟩, 9) := ⟨⟨by decide +kernel, by decide +kernel⟩, List.mem_of_getElem? (i := 59) (by decide +kernel), List.mem_of_getElem? (i := 721) (by decide +kernel), List.mem_of_getElem? (i := 722) (by decide +kernel)⟩
theorem lw_p20 : lw_okq (⟨"Clockhouse", "correctRate", "(J)V"⟩, 10) := ⟨⟨by decide +kernel, by decide +kernel⟩, List.mem_of_getElem? (i := 17) (by decide +kernel), List.mem_of_getElem? (i := 735) (by decide +kernel), List.mem_of_getElem? (i := 736) (by decide +kernel)⟩
theorem lw_p21 : lw_okq (⟨"Clockhouse", "correctTime", "(J)I"⟩, 10) := ⟨⟨by decide +kernel, by decide +kernel⟩, List.mem_of_getElem? (i := 17) (by decide +kernel), List.mem_of_getElem? (i := 746) (by decide +kernel), List.mem_of_getElem? (i := 747) (by decide +kernel)⟩
theorem lw_p22 : lw_okq (⟨"Clockhouse", "takeStratumOfPeer", "()V"⟩, 10) := ⟨⟨by decide +kernel, by decide +kernel⟩, List.mem_of_getElem? (i := 17) (by decide +kernel), List.mem_of_getElem? (i := 759) (by decide +kernel), List.mem_of_getElem? (i := 760) (by decide +kernel)⟩
theorem lw_p23 : lw_okq (⟨"Clockhouse", "forgetSamples", "()V"⟩, 10) := ⟨⟨by decide +kernel, by decide +kernel⟩, List.mem_of_getElem? (i := 17) (by decide +kernel), List.mem_of_getElem? (i := 764) (by decide +kernel), List.mem_of_getElem? (i := 765) (by decide +kernel)⟩
theorem lw_p24 : lw_okq (⟨"ClockhouseModel", "refused", "(I)Z"⟩, 26) := ⟨⟨by decide +kernel, by decide +kernel⟩, List.mem_of_getElem? (i := 769) (by decide +kernel), List.mem_of_getElem? (i := 869) (by decide +kernel), List.mem_of_getElem? (i := 870) (by decide +kernel)⟩
theorem lw_p25 : lw_okq (⟨"ClockhouseModel", "goOn", "(I)V"⟩, 26) := ⟨⟨by decide +kernel, by decide +kernel⟩, List.mem_of_getElem? (i := 769) (by decide +kernel), List.mem_of_getElem? (i := 879) (by decide +kernel), List.mem_of_getElem? (i := 880) (by decide +kernel)⟩
theorem lw_p26 : lw_okq (⟨"ClockhouseModel", "reading", "()J"⟩, 26) := ⟨⟨by decide +kernel, by decide +kernel⟩, List.mem_of_getElem? (i := 769) (by decide +kernel), List.mem_of_getElem? (i := 884) (by decide +kernel), List.mem_of_getElem? (i := 885) (by decide +kernel)⟩
theorem lw_p27 : lw_okq (⟨"ClockhouseModel", "fineLong", "(J)J"⟩, 26) := ⟨⟨by decide +kernel, by decide +kernel⟩, List.mem_of_getElem? (i := 769) (by decide +kernel), List.mem_of_getElem? (i := 901) (by decide +kernel), List.mem_of_getElem? (i := 902) (by decide +kernel)⟩
theorem lw_p28 : lw_okq (⟨"ClockhouseModel", "fine", "(I)I"⟩, 26) := ⟨⟨by decide +kernel, by decide +kernel⟩, List.mem_of_getElem? (i := 769) (by decide +kernel), List.mem_of_getElem? (i := 921) (by decide +kernel), List.mem_of_getElem? (i := 922) (by decide +kernel)⟩
theorem lw_p29 : lw_okq (⟨"ClockhouseModel", "isServer", "(I)Z"⟩, 26) := ⟨⟨by decide +kernel, by decide +kernel⟩, List.mem_of_getElem? (i := 769) (by decide +kernel), List.mem_of_getElem? (i := 950) (by decide +kernel), List.mem_of_getElem? (i := 951) (by decide +kernel)⟩
theorem lw_p30 : lw_okq (⟨"ClockhouseModel", "keep", "(IJJJ)V"⟩, 26) := ⟨⟨by decide +kernel, by decide +kernel⟩, List.mem_of_getElem? (i := 769) (by decide +kernel), List.mem_of_getElem? (i := 961) (by decide +kernel), List.mem_of_getElem? (i := 962) (by decide +kernel)⟩
theorem lw_p31 : lw_okq (⟨"ClockhouseModel", "noSample", "(I)Z"⟩, 26) := ⟨⟨by decide +kernel, by decide +kernel⟩, List.mem_of_getElem? (i := 769) (by decide +kernel), List.mem_of_getElem? (i := 977) (by decide +kernel), List.mem_of_getElem? (i := 978) (by decide +kernel)⟩
def lw_privs_2 : List (MethodName × Nat) := [(⟨"Clockhouse$Server", "leastDelay", "()I"⟩, 9), (⟨"Clockhouse", "heardServer", "(I)LClockhouse$Server;"⟩, 10), (⟨"Clockhouse", "selectFromSome", "()V"⟩, 10), (⟨"Clockhouse$Selection", "weight", "(I)J"⟩, 9), (⟨"Clockhouse", "correctRate", "(J)V"⟩, 10), (⟨"Clockhouse", "correctTime", "(J)I"⟩, 10), (⟨"Clockhouse", "takeStratumOfPeer", "()V"⟩, 10), (⟨"Clockhouse", "forgetSamples", "()V"⟩, 10), (⟨"ClockhouseModel", "refused", "(I)Z"⟩, 26), (⟨"ClockhouseModel", "goOn", "(I)V"⟩, 26), (⟨"ClockhouseModel", "reading", "()J"⟩, 26), (⟨"ClockhouseModel", "fineLong", "(J)J"⟩, 26), (⟨"ClockhouseModel", "fine", "(I)I"⟩, 26), (⟨"ClockhouseModel", "isServer", "(I)Z"⟩, 26), (⟨"ClockhouseModel", "keep", "(IJJJ)V"⟩, 26), (⟨"ClockhouseModel", "noSample", "(I)Z"⟩, 26)]
theorem lw_r2 : ∀ q ∈ lw_privs_2, lw_okq q := List.forall_mem_cons.mpr ⟨lw_p16, List.forall_mem_cons.mpr ⟨lw_p17, List.forall_mem_cons.mpr ⟨lw_p18, List.forall_mem_cons.mpr ⟨lw_p19, List.forall_mem_cons.mpr ⟨lw_p20, List.forall_mem_cons.mpr ⟨lw_p21, List.forall_mem_cons.mpr ⟨lw_p22, List.forall_mem_cons.mpr ⟨lw_p23, List.forall_mem_cons.mpr ⟨lw_p24, List.forall_mem_cons.mpr ⟨lw_p25, List.forall_mem_cons.mpr ⟨lw_p26, List.forall_mem_cons.mpr ⟨lw_p27, List.forall_mem_cons.mpr ⟨lw_p28, List.forall_mem_cons.mpr ⟨lw_p29, List.forall_mem_cons.mpr ⟨lw_p30, List.forall_mem_cons.mpr ⟨lw_p31, fun _ h => absurd h List.not_mem_nil⟩⟩⟩⟩⟩⟩⟩⟩⟩⟩⟩⟩⟩⟩⟩⟩
theorem lw_p32 : lw_okq (⟨"ClockhouseModel", "best", "(I)I"⟩, 26) := ⟨⟨by decide +kernel, by decide +kernel⟩, List.mem_of_getElem? (i := 769) (by decide +kernel), List.mem_of_getElem? (i := 981) (by decide +kernel), List.mem_of_getElem? (i := 982) (by decide +kernel)⟩
theorem lw_p33 : lw_okq (⟨"ClockhouseModel", "jitterOf", "(I)J"⟩, 26) := ⟨⟨by decide +kernel, by decide +kernel⟩, List.mem_of_getElem? (i := 769) (by decide +kernel), List.mem_of_getElem? (i := 993) (by decide +kernel), List.mem_of_getElem? (i := 994) (by decide +kernel)⟩
theorem lw_p34 : lw_okq (⟨"ClockhouseModel", "distanceOf", "(I)J"⟩, 26) := ⟨⟨by decide +kernel, by decide +kernel⟩, List.mem_of_getElem? (i := 769) (by decide +kernel), List.mem_of_getElem? (i := 1004) (by decide +kernel), List.mem_of_getElem? (i := 1005) (by decide +kernel)⟩
theorem lw_p35 : lw_okq (⟨"ClockhouseModel", "intersect", "()V"⟩, 26) := ⟨⟨by decide +kernel, by decide +kernel⟩, List.mem_of_getElem? (i := 769) (by decide +kernel), List.mem_of_getElem? (i := 1013) (by decide +kernel), List.mem_of_getElem? (i := 1014) (by decide +kernel)⟩
theorem lw_p36 : lw_okq (⟨"ClockhouseModel", "from", "(I)J"⟩, 26) := ⟨⟨by decide +kernel, by decide +kernel⟩, List.mem_of_getElem? (i := 769) (by decide +kernel), List.mem_of_getElem? (i := 1017) (by decide +kernel), List.mem_of_getElem? (i := 1018) (by decide +kernel)⟩
theorem lw_p37 : lw_okq (⟨"ClockhouseModel", "covers", "(J)I"⟩, 26) := ⟨⟨by decide +kernel, by decide +kernel⟩, List.mem_of_getElem? (i := 769) (by decide +kernel), List.mem_of_getElem? (i := 1021) (by decide +kernel), List.mem_of_getElem? (i := 1022) (by decide +kernel)⟩
theorem lw_p38 : lw_okq (⟨"ClockhouseModel", "has", "(IJ)Z"⟩, 26) := ⟨⟨by decide +kernel, by decide +kernel⟩, List.mem_of_getElem? (i := 769) (by decide +kernel), List.mem_of_getElem? (i := 1025) (by decide +kernel), List.mem_of_getElem? (i := 1026) (by decide +kernel)⟩
theorem lw_p39 : lw_okq (⟨"ClockhouseModel", "to", "(I)J"⟩, 26) := ⟨⟨by decide +kernel, by decide +kernel⟩, List.mem_of_getElem? (i := 769) (by decide +kernel), List.mem_of_getElem? (i := 1029) (by decide +kernel), List.mem_of_getElem? (i := 1030) (by decide +kernel)⟩
theorem lw_p40 : lw_okq (⟨"ClockhouseModel", "select", "()V"⟩, 26) := ⟨⟨by decide +kernel, by decide +kernel⟩, List.mem_of_getElem? (i := 769) (by decide +kernel), List.mem_of_getElem? (i := 1056) (by decide +kernel), List.mem_of_getElem? (i := 1057) (by decide +kernel)⟩
theorem lw_p41 : lw_okq (⟨"ClockhouseModel", "surviving", "()I"⟩, 26) := ⟨⟨by decide +kernel, by decide +kernel⟩, List.mem_of_getElem? (i := 769) (by decide +kernel), List.mem_of_getElem? (i := 1060) (by decide +kernel), List.mem_of_getElem? (i := 1061) (by decide +kernel)⟩
theorem lw_p42 : lw_okq (⟨"ClockhouseModel", "removes", "()Z"⟩, 26) := ⟨⟨by decide +kernel, by decide +kernel⟩, List.mem_of_getElem? (i := 769) (by decide +kernel), List.mem_of_getElem? (i := 1064) (by decide +kernel), List.mem_of_getElem? (i := 1065) (by decide +kernel)⟩
theorem lw_p43 : lw_okq (⟨"ClockhouseModel", "spread", "(I)J"⟩, 26) := ⟨⟨by decide +kernel, by decide +kernel⟩, List.mem_of_getElem? (i := 769) (by decide +kernel), List.mem_of_getElem? (i := 1068) (by decide +kernel), List.mem_of_getElem? (i := 1069) (by decide +kernel)⟩
theorem lw_p44 : lw_okq (⟨"ClockhouseModel", "combined", "()J"⟩, 26) := ⟨⟨by decide +kernel, by decide +kernel⟩, List.mem_of_getElem? (i := 769) (by decide +kernel), List.mem_of_getElem? (i := 1076) (by decide +kernel), List.mem_of_getElem? (i := 1077) (by decide +kernel)⟩
theorem lw_p45 : lw_okq (⟨"ClockhouseModel", "leader", "()I"⟩, 26) := ⟨⟨by decide +kernel, by decide +kernel⟩, List.mem_of_getElem? (i := 769) (by decide +kernel), List.mem_of_getElem? (i := 1084) (by decide +kernel), List.mem_of_getElem? (i := 1085) (by decide +kernel)⟩
def lw_privs_3 : List (MethodName × Nat) := [(⟨"ClockhouseModel", "best", "(I)I"⟩, 26), (⟨"ClockhouseModel", "jitterOf", "(I)J"⟩, 26), (⟨"ClockhouseModel", "distanceOf", "(I)J"⟩, 26), (⟨"ClockhouseModel", "intersect", "()V"⟩, 26), (⟨"ClockhouseModel", "from", "(I)J"⟩, 26), (⟨"ClockhouseModel", "covers", "(J)I"⟩, 26), (⟨"ClockhouseModel", "has", "(IJ)Z"⟩, 26), (⟨"ClockhouseModel", "to", "(I)J"⟩, 26), (⟨"ClockhouseModel", "select", "()V"⟩, 26), (⟨"ClockhouseModel", "surviving", "()I"⟩, 26), (⟨"ClockhouseModel", "removes", "()Z"⟩, 26), (⟨"ClockhouseModel", "spread", "(I)J"⟩, 26), (⟨"ClockhouseModel", "combined", "()J"⟩, 26), (⟨"ClockhouseModel", "leader", "()I"⟩, 26)]
theorem lw_r3 : ∀ q ∈ lw_privs_3, lw_okq q := List.forall_mem_cons.mpr ⟨lw_p32, List.forall_mem_cons.mpr ⟨lw_p33, List.forall_mem_cons.mpr ⟨lw_p34, List.forall_mem_cons.mpr ⟨lw_p35, List.forall_mem_cons.mpr ⟨lw_p36, List.forall_mem_cons.mpr ⟨lw_p37, List.forall_mem_cons.mpr ⟨lw_p38, List.forall_mem_cons.mpr ⟨lw_p39, List.forall_mem_cons.mpr ⟨lw_p40, List.forall_mem_cons.mpr ⟨lw_p41, List.forall_mem_cons.mpr ⟨lw_p42, List.forall_mem_cons.mpr ⟨lw_p43, List.forall_mem_cons.mpr ⟨lw_p44, List.forall_mem_cons.mpr ⟨lw_p45, fun _ h => absurd h List.not_mem_nil⟩⟩⟩⟩⟩⟩⟩⟩⟩⟩⟩⟩⟩⟩
def lw_privs : List (MethodName × Nat) := lw_privs_1 ++ (lw_privs_2 ++ (lw_privs_3))
def lw_tbl : List Cond := k2_sels lw_privs ++ tables_1
theorem lw_privs_ok : ∀ q ∈ lw_privs, lw_okq q := by
  show ∀ q ∈ lw_privs_1 ++ (lw_privs_2 ++ (lw_privs_3)), lw_okq q
  exact List.forall_mem_append.mpr ⟨lw_r1, List.forall_mem_append.mpr ⟨lw_r2, lw_r3⟩⟩
end
section
/-! ===== BEGIN words of one list among another's, by their places ===== -/
theorem goodIn_r {big : List Cond} (ws : List Cond) (ps : List Nat) (hp : ws = ps.filterMap (fun i => big[i]?)) (h : ws.all goodWord = true) : GoodIn big ws := by
  intro w hw
  have h1 := List.all_eq_true.mp h w hw
  rw [hp] at hw
  obtain ⟨i, -, hi⟩ := List.mem_filterMap.mp hw
  have hm : w ∈ big := by first | exact List.mem_of_getElem? hi | exact List.getElem?_mem hi
  exact ⟨hm, good_of_word h1⟩
theorem goodIn_app {big a b : List Cond} (ha : GoodIn big a) (hb : GoodIn big b) : GoodIn big (a ++ b) := fun w h => (List.mem_append.mp h).elim (ha w) (hb w)
theorem goodIn_ca {big a b : List Cond} {c : Cond} (ha : GoodIn big (c :: a)) (hb : GoodIn big b) : GoodIn big (c :: (a ++ b)) := fun w h => (List.mem_cons.mp h).elim (fun e => ha w (List.mem_cons.mpr (Or.inl e))) (fun h => (List.mem_append.mp h).elim (fun h => ha w (List.mem_cons.mpr (Or.inr h))) (hb w))
theorem goodIn_sub {big ws : List Cond} (hm : ∀ w ∈ ws, w ∈ big) (h : ws.all goodWord = true) : GoodIn big ws := fun w hw => ⟨hm w hw, good_of_word (List.all_eq_true.mp h w hw)⟩
/-! ===== END ===== -/

/-! ===== BEGIN exceptions that leave a method, and their catching by the caller (launches without stack traces) ===== -/
section VXA
/-! The laws vx_back, vx_callV, vx_callS, vx_callSW, vx_throw0, vx_throwS follow proofs of the library, with one case more: JvmDerived/Free/Laws.lean (Back.of_free), Shelf42/LK1.lean (callV, callS), Shelf/KitTraced.lean (throwNew0V, throwNewS). -/
/-- where a method has thrown q: the class by its name, the cell, what was written, the world -/
def vx_T (XC : String → State → State → Prop) (st : State) (q : Addr) (t : State) (mc ms : Nat) (free : Addr → Prop) : Prop :=
  ∃ (E : String) (ce : Cell) (L : List Loc), XC E st t ∧ t.heap[q]? = some ce ∧ ce.vm = .none ∧ st.vm.findClass E = some ce.cls ∧ st.WarmedH t.vm ∧ st.sameButNew ({ t with vm := st.vm } : State) L mc ms ∧ ∀ z ∈ L, free z.base
def vx_Q (Qc : Array Value → State → Outcome → State → Prop) (XC : String → State → State → Prop) (mc ms : Nat) (free : Addr → Prop) : Array Value → State → Outcome → State → Prop := fun a st o t =>
  (Qc a st o t ∧ ∃ L, FrameEnd st o t L mc ms ∧ ∀ q ∈ L, free q.base) ∨ ∃ q, o = .threw q ∧ vx_T XC st q t mc ms free
/-- a callee that returns or throws -/
def vx_Met (l : Launch) (y : MethodName) (ws : List Cond) (rm : Room) (Pc : Array Value → State → Prop) (Qc : Array Value → State → Outcome → State → Prop) (XC : String → State → State → Prop) (mc ms : Nat) (free : Addr → Prop) : Prop :=
  MetFree l y (headSpec ws rm) Pc (fun _ _ _ _ _ => True) (vx_Q Qc XC mc ms free)
def vx_Post (XC : String → State → State → Prop) (mc ms : Nat) (free : Addr → Prop) : Pt → Array Value → Addr → Pt → Prop := fun A a q B =>
  ∃ (g : JFrame) (mk : MethodId) (t : State) (L : List Loc) (E : String) (ce : Cell), B.U.heap = t.heap ∧ B.U.vm = t.vm ∧ XC E (A.U.calling g mk a) t ∧ t.heap[q]? = some ce ∧ ce.vm = .none ∧ A.U.vm.findClass E = some ce.cls ∧ B.locs = A.locs ++ L ∧ (∀ z ∈ L, free z.base) ∧ B.cells = A.cells + mc ∧ B.slots = A.slots + ms
def vx_Back (l : Launch) (R : Room) (p : Program) (e : Env) (below : List Frame) (s : State) (sargs : Array Value) (y : MethodName) (len W9 : Nat)
    (Pre : Pt → Array Value → Prop) (Post : Pt → Array Value → Option Value → Pt → Prop) (PostX : Pt → Array Value → Addr → Pt → Prop) : Prop :=
  ∀ (m : MethodId) (meth : Method) (c : Code) (A : Pt) (g : JFrame) (ig : Instr) (mk : MethodId) (a : Array Value),
    Stand p l e R s m sargs below meth c A.U A.locs A.cells A.slots → g.method = m → g.locals.size = c.maxLocals → decode c.code g.pc = .ok (ig, len) →
    2 * g.monitorRoom + (g.stack.map fun v => v.category).sum ≤ W9 → A.U.methodNamed? y = some mk → Pre A a →
    (∃ (v : Option Value) (B : Pt), Stand p l e R s m sargs below meth c B.U B.locs B.cells B.slots ∧ Post A a v B ∧
      Steps p.tables e below (doInvoke e (A.U.setTop g) [] mk a).1 (B.U.setTop { g with pc := g.pc + len, stack := v.toList ++ g.stack })) ∨
    (∃ (q : Addr) (B : Pt), Stand p l e R s m sargs below meth c B.U B.locs B.cells B.slots ∧ PostX A a q B ∧
      Steps p.tables e below (doInvoke e (A.U.setTop g) [] mk a).1 ((B.U.setTop g).pushFrame (.throwing q)))
section Payer
variable {l : Launch} {R : Room} {p : Program} {e : Env} {below : List Frame} {s : State} {sargs : Array Value} {y : MethodName} {len W9 : Nat}
theorem vx_back {ws : List Cond} {rm : Room} {Pc : Array Value → State → Prop} {Qc : Array Value → State → Outcome → State → Prop} {XC : String → State → State → Prop} {mc ms : Nat} {free : Addr → Prop} {bytes : ByteArray} {maxL : Nat} {ret : Option FieldType}
    (hM : vx_Met l y ws rm Pc Qc XC mc ms free) (hblind : FrameBlind Pc) (hrc : rm.cells = mc) (hrs : rm.slots = ms)
    (hframes : rm.frames + 1 ≤ R.frames) (hlocals : W9 + (maxL + 11) + rm.locals ≤ R.locals)
    (hws : ∀ w ∈ ws, ∀ a' U, s.WarmedH U.vm → w.before a' U = true) (hcode : Cond.code y bytes maxL ret ∈ ws) (hinit : ∀ a' U, s.WarmedH U.vm → (Cond.initialized y.cls).before a' U = true) :
    vx_Back l R p e below s sargs y len W9 (PreOf R mc ms Pc) (PostOf Qc mc ms free) (vx_Post XC mc ms free) := by
  intro m meth c A g ig mk a X hg hsize hdg hW hn hp
  have h1 : (headSpec ws rm).pre.before a A.U = true := atoms_intro fun w hw => hws w hw _ _ X.warmed
  have h2 : (Cond.code y bytes maxL ret).before a A.U = true := hws _ hcode _ _ X.warmed
  have h3 : (Cond.initialized y.cls).before a A.U = true := hinit _ _ X.warmed
  have h4 : A.cells + (headSpec ws rm).room.cells ≤ R.cells := by rw [show (headSpec ws rm).room.cells = mc from hrc]; exact hp.1
  have h5 : A.slots + (headSpec ws rm).room.slots ≤ R.slots := by rw [show (headSpec ws rm).room.slots = ms from hrs]; exact hp.2.1
  have hPc : Pc a (A.U.calling g mk a) := hblind _ _ _ _ hp.2.2
  obtain ⟨U, Ls, c0, s0⟩ := A
  dsimp only [Pt.U, Pt.locs, Pt.cells, Pt.slots] at h1 h2 h3 h4 h5 X hn hPc ⊢
  obtain ⟨methY, cY, hmY, hcY, -, hlY, -, -, -, -⟩ := Cond.code_spec hn h2
  obtain ⟨kY, hkY, -⟩ := className_of_methodNamed hn
  have hinitY : kY.init = .initialized := Cond.initialized_spec (findClass_of_methodNamed hn) hkY h3
  have h : At U g.method c below := by rw [hg]; exact X.here
  have hlocals9 : W9 + (maxL + 11) + (headSpec ws rm).room.locals ≤ R.locals := hlocals
  have happ : (headSpec ws rm).appliesLoose y e.platform (U.calling g mk a) = true :=
    Spec.appliesLoose_calling (g := g) h hdg hn hkY hinitY
      (X.room_calling (g := g) (R' := (headSpec ws rm).room) hsize hmY hcY hframes (by rw [hlY]; omega) h4 h5) h1
  obtain ⟨mid, hmid⟩ := h.above
  have hfr : (U.setTop g).frames = (.java g :: mid) ++ below := by rw [State.frames_setTop' g h.top, hmid]; rfl
  obtain ⟨o, s₂, hsteps, -, hend, hq⟩ := Steps.callFree hM p X.admits X.cas X.clock (acts := []) hfr happ hPc trivial
  have hq' : vx_Q Qc XC mc ms free a (U.calling g mk a) o s₂ := hq
  rw [State.frames_setTop' g h.top] at hend
  obtain ⟨g₀, hg0⟩ := Option.isSome_iff_exists.mp h.top
  obtain ⟨r, hr⟩ := State.topJava?_eq_some.mp hg0
  have hr' : (({ U with heap := s₂.heap, slotsUsed := s₂.slotsUsed } : State).setVm s₂.vm).frames = .java g₀ :: r := hr
  rcases hq' with ⟨hqc, L, hfe, hL⟩ | ⟨q, rfl, E, ce, L, hx, hce, hcv, hcl, hW₂, hsm, hL⟩
  · obtain ⟨⟨v, rfl⟩, hW₂, e2, q2, q3, q4, q5, q6⟩ := id hfe
    have e3 : s₂ = ({ (U.calling g mk a).setFrames s₂.frames with heap := s₂.heap, slotsUsed := s₂.slotsUsed } : State).setVm s₂.vm := by
      have : s₂ = ({ s₂ with vm := (U.calling g mk a).vm } : State).setVm s₂.vm := rfl
      rw [e2] at this
      exact this
    obtain ⟨c₂, i₂, len₂, hc₂, hd₂, hf₂⟩ := hend
    have hW' : U.WarmedH s₂.vm := hW₂
    have hcc : c₂ = c := by
      have h1 : s₂.code? g.method = U.code? g.method := by
        rw [State.code?_eq, State.code?_eq, hW'.alike.method?]
      exact Option.some.inj (hc₂.symm.trans (h1.trans h.code))
    subst hcc
    have hlen : len₂ = len := by rw [hdg] at hd₂; cases hd₂; rfl
    subst hlen
    have hs₂ : s₂ = (({ U with heap := s₂.heap, slotsUsed := s₂.slotsUsed } : State).setVm s₂.vm).setTop { g with pc := g.pc + len₂, stack := v.toList ++ g.stack } := by
      refine e3.trans ?_
      rw [hf₂, State.calling_eq h.top, State.setFrames_setFrames, State.setTop_of_frames _ hr', hr]
      rfl
    have hsame : U.sameButNew ({ U with heap := s₂.heap, slotsUsed := s₂.slotsUsed } : State) L mc ms := by
      refine ⟨?_, q2, q3, q4, q5, q6⟩
      obtain ⟨t, ht, -⟩ := State.frames_cons hr
      show ({ U with heap := s₂.heap, slotsUsed := s₂.slotsUsed } : State) = { U.setFrames U.frames with heap := s₂.heap, slotsUsed := s₂.slotsUsed }
      rw [State.setFrames_self ht]
    subst hg
    refine Or.inl ⟨v, ⟨(({ U with heap := s₂.heap, slotsUsed := s₂.slotsUsed } : State).setVm s₂.vm), Ls ++ L, c0 + mc, s0 + ms⟩,
      ⟨X.admits, X.cas, X.clock, X.frames, X.room, X.hears, X.method, X.code, (X.here.setHeapUsed s₂.heap s₂.slotsUsed).setVm hW'.alike, X.tail, State.WarmedH.trans X.warmed hW', X.limits, X.bytes, X.same.trans (hsame.setVm s.vm)⟩,
      ⟨g, mk, s₂, L, rfl, rfl, hqc, rfl, hL, rfl, rfl⟩, ?_⟩
    show Steps p.tables e below _ ((({ U with heap := s₂.heap, slotsUsed := s₂.slotsUsed } : State).setVm s₂.vm).setTop { g with pc := g.pc + len₂, stack := v.toList ++ g.stack })
    rw [← hs₂]
    exact hsteps
  · obtain ⟨e2, q2, q3, q4, q5, q6⟩ := id hsm
    have e3 : s₂ = ({ (U.calling g mk a).setFrames s₂.frames with heap := s₂.heap, slotsUsed := s₂.slotsUsed } : State).setVm s₂.vm := by
      have : s₂ = ({ s₂ with vm := (U.calling g mk a).vm } : State).setVm s₂.vm := rfl
      rw [e2] at this
      exact this
    have hf₂ : s₂.frames = .throwing q :: .java g :: U.frames.tail := hend
    have hW' : U.WarmedH s₂.vm := hW₂
    have hs₂ : s₂ = ((({ U with heap := s₂.heap, slotsUsed := s₂.slotsUsed } : State).setVm s₂.vm).setTop g).pushFrame (.throwing q) := by
      refine e3.trans ?_
      rw [hf₂, State.calling_eq h.top, State.setFrames_setFrames, State.pushFrame, State.frames_setTop _ hr', State.setTop_of_frames _ hr', State.setFrames_setFrames, hr]
      rfl
    have hsame : U.sameButNew ({ U with heap := s₂.heap, slotsUsed := s₂.slotsUsed } : State) L mc ms := by
      refine ⟨?_, q2, q3, q4, q5, q6⟩
      obtain ⟨t, ht, -⟩ := State.frames_cons hr
      show ({ U with heap := s₂.heap, slotsUsed := s₂.slotsUsed } : State) = { U.setFrames U.frames with heap := s₂.heap, slotsUsed := s₂.slotsUsed }
      rw [State.setFrames_self ht]
    subst hg
    refine Or.inr ⟨q, ⟨(({ U with heap := s₂.heap, slotsUsed := s₂.slotsUsed } : State).setVm s₂.vm), Ls ++ L, c0 + mc, s0 + ms⟩,
      ⟨X.admits, X.cas, X.clock, X.frames, X.room, X.hears, X.method, X.code, (X.here.setHeapUsed s₂.heap s₂.slotsUsed).setVm hW'.alike, X.tail, State.WarmedH.trans X.warmed hW', X.limits, X.bytes, X.same.trans (hsame.setVm s.vm)⟩,
      ⟨g, mk, s₂, L, E, ce, rfl, rfl, hx, hce, hcv, hcl, rfl, hL, rfl, rfl⟩, ?_⟩
    show Steps p.tables e below _ (((({ U with heap := s₂.heap, slotsUsed := s₂.slotsUsed } : State).setVm s₂.vm).setTop g).pushFrame (.throwing q))
    rw [← hs₂]
    exact hsteps
end Payer
section Calls
variable {p : Program} {l : Launch} {e : Env} {R : Room} {s : State} {m : MethodId} {args : Array Value} {below : List Frame} {meth : Method} {c : Code} {T : State} {locs : List Loc} {cells slots : Nat}
theorem vx_callV (X : Stand p l e R s m args below meth c T locs cells slots) (hexec : p.tables.exec = Jvm.exec) {own C : String} {index : Nat} {y : MethodName} {bytes : ByteArray} {maxL : Nat} {ret : Option FieldType}
    (hown : s.vm.findClass own = some m.cls) (hlink : (Cond.methodLink own index y).before args s = true) (hinst : (Cond.instanceMethod y).before args s = true) (hsel : (Cond.selects C y y).before args s = true)
    (hcode : (Cond.code y bytes maxL ret).before args s = true) (hy : y.cls ≠ "java/lang/invoke/MethodHandle" ∧ y.cls ≠ "java/lang/invoke/VarHandle")
    {W9 : Nat} {Pre : Pt → Array Value → Prop} {Post : Pt → Array Value → Option Value → Pt → Prop} {PostX : Pt → Array Value → Addr → Pt → Prop} (hK : vx_Back l R p e below s args y 3 W9 Pre Post PostX)
    {b : Addr} {cellB : Cell} (hcell : T.heap[b]? = some cellB) (hobj : cellB.vm.isStatics = false) (hcls : s.vm.findClass C = some cellB.cls)
    {g : JFrame} (hg : g.method = m) (hsize : g.locals.size = c.maxLocals) {argsL rest : List Value} (hlen : ∀ sig, parseMethodDescriptor y.desc = some sig → argsL.length = sig.parameters.length)
    (hstack : g.stack = argsL.reverse ++ .ref b :: rest) (hW : 2 * g.monitorRoom + (rest.map fun v => v.category).sum ≤ W9) (hdg : decode c.code g.pc = .ok (.invokevirtual index, 3))
    (hpre : ∀ vm₁, s.WarmedH vm₁ → Pre ⟨T.setVm vm₁, locs, cells, slots⟩ (Value.ref b :: argsL).toArray) :
    (∃ (v : Option Value) (vm₁ : Vm) (B : Pt), s.WarmedH vm₁ ∧ Stand p l e R s m args below meth c B.U B.locs B.cells B.slots ∧ Post ⟨T.setVm vm₁, locs, cells, slots⟩ (Value.ref b :: argsL).toArray v B ∧
      ∀ target, Steps p.tables e below (B.U.setTop { g with pc := g.pc + 3, stack := v.toList ++ rest }) target → Steps p.tables e below (T.setTop g) target) ∨
    (∃ (q : Addr) (vm₁ : Vm) (B : Pt), s.WarmedH vm₁ ∧ Stand p l e R s m args below meth c B.U B.locs B.cells B.slots ∧ PostX ⟨T.setVm vm₁, locs, cells, slots⟩ (Value.ref b :: argsL).toArray q B ∧
      Steps p.tables e below (T.setTop g) ((B.U.setTop { g with stack := rest }).pushFrame (.throwing q))) := by
  obtain ⟨mk, methM, hnamed, hmethM, hstM, habM⟩ := Cond.instanceMethod_spec hinst
  obtain ⟨methM', cM, hmethM', -, -, -, -, -, -, hsigM⟩ := Cond.code_spec hnamed hcode
  cases hmethM.symm.trans hmethM'
  obtain ⟨c2, r2, m2, q1, q2, q3, q4, kP, hkP, hkPi⟩ := Cond.selects_spec hsel
  cases hcls.symm.trans q1
  cases (State.methodFound?_of_named hnamed hy).symm.trans q2
  cases hnamed.symm.trans q3
  have hselP : selectMethod e.platform s.vm cellB.cls mk = .method mk := by rw [Launch.admits_selectMethod X.admits]; exact q4
  obtain ⟨vm₁, X₁, hstep₁⟩ := X.invokevirtual hexec hown hlink hnamed hmethM hstM hkP hkPi hy (a := b) (cell := cellB) hcell
    (fun z h => by rw [h] at hobj; cases hobj) hselP hmethM habM hkP hkPi (g := g) hg (argsL := argsL) (rest := rest) (hlen _ hsigM) hstack hdg
  rcases hK m meth c ⟨T.setVm vm₁, locs, cells, slots⟩ { g with stack := rest } (.invokevirtual index) mk (Value.ref b :: argsL).toArray X₁ hg hsize hdg hW (X₁.named hnamed) (hpre vm₁ X₁.warmed) with ⟨v, B, X', hpost, hsteps⟩ | ⟨q, B, X', hpost, hsteps⟩
  · exact Or.inl ⟨v, vm₁, B, X₁.warmed, X', hpost, fun target h => hstep₁ _ fun acts => by rw [doInvoke_state]; exact hsteps.trans h⟩
  · exact Or.inr ⟨q, vm₁, B, X₁.warmed, X', hpost, hstep₁ _ fun acts => by rw [doInvoke_state]; exact hsteps⟩
theorem vx_callS (X : Stand p l e R s m args below meth c T locs cells slots) (hexec : p.tables.exec = Jvm.exec) {own : String} {index : Nat} {y : MethodName} {bytes : ByteArray} {maxL : Nat} {ret : Option FieldType}
    (hown : s.vm.findClass own = some m.cls) (hlink : (Cond.methodLink own index y).before args s = true) (hstat : (Cond.static y).before args s = true) (hinit : (Cond.initialized y.cls).before args s = true)
    (hcode : (Cond.code y bytes maxL ret).before args s = true) (hy : y.cls ≠ "java/lang/invoke/MethodHandle" ∧ y.cls ≠ "java/lang/invoke/VarHandle")
    {W9 : Nat} {Pre : Pt → Array Value → Prop} {Post : Pt → Array Value → Option Value → Pt → Prop} {PostX : Pt → Array Value → Addr → Pt → Prop} (hK : vx_Back l R p e below s args y 3 W9 Pre Post PostX)
    {g : JFrame} (hg : g.method = m) (hsize : g.locals.size = c.maxLocals) {argsL rest : List Value} (hlen : ∀ sig, parseMethodDescriptor y.desc = some sig → argsL.length = sig.parameters.length)
    (hstack : g.stack = argsL.reverse ++ rest) (hW : 2 * g.monitorRoom + (rest.map fun v => v.category).sum ≤ W9) (hdg : decode c.code g.pc = .ok (.invokestatic index, 3))
    (hpre : ∀ vm₁, s.WarmedH vm₁ → Pre ⟨T.setVm vm₁, locs, cells, slots⟩ argsL.toArray) :
    (∃ (v : Option Value) (vm₁ : Vm) (B : Pt), s.WarmedH vm₁ ∧ Stand p l e R s m args below meth c B.U B.locs B.cells B.slots ∧ Post ⟨T.setVm vm₁, locs, cells, slots⟩ argsL.toArray v B ∧
      ∀ target, Steps p.tables e below (B.U.setTop { g with pc := g.pc + 3, stack := v.toList ++ rest }) target → Steps p.tables e below (T.setTop g) target) ∨
    (∃ (q : Addr) (vm₁ : Vm) (B : Pt), s.WarmedH vm₁ ∧ Stand p l e R s m args below meth c B.U B.locs B.cells B.slots ∧ PostX ⟨T.setVm vm₁, locs, cells, slots⟩ argsL.toArray q B ∧
      Steps p.tables e below (T.setTop g) ((B.U.setTop { g with stack := rest }).pushFrame (.throwing q))) := by
  obtain ⟨mk, hnamed⟩ := Cond.code_named hcode
  obtain ⟨methM, cM, hmethM, -, -, -, -, -, -, hsigM⟩ := Cond.code_spec hnamed hcode
  have hstatic : methM.isStatic = true := Cond.static_spec hnamed hmethM hstat
  obtain ⟨kP, hkP, -⟩ := className_of_methodNamed hnamed
  have hinitP : kP.init = .initialized := Cond.initialized_spec (findClass_of_methodNamed hnamed) hkP hinit
  obtain ⟨vm₁, X₁, hstep₁⟩ := X.invokestatic hexec hown hlink hnamed hmethM hstatic hkP hinitP hy (g := g) hg (argsL := argsL) (rest := rest) (hlen _ hsigM) hstack hdg
  rcases hK m meth c ⟨T.setVm vm₁, locs, cells, slots⟩ { g with stack := rest } (.invokestatic index) mk argsL.toArray X₁ hg hsize hdg hW (X₁.named hnamed) (hpre vm₁ X₁.warmed) with ⟨v, B, X', hpost, hsteps⟩ | ⟨q, B, X', hpost, hsteps⟩
  · exact Or.inl ⟨v, vm₁, B, X₁.warmed, X', hpost, fun target h => hstep₁ _ fun acts => by rw [doInvoke_state]; exact hsteps.trans h⟩
  · exact Or.inr ⟨q, vm₁, B, X₁.warmed, X', hpost, hstep₁ _ fun acts => by rw [doInvoke_state]; exact hsteps⟩
end Calls
theorem vx_cls {s : State} {T : State} {vm₁ : Vm} {E : String} {k : ClassId} (hW : s.WarmedH vm₁) (h : (T.setVm vm₁).vm.findClass E = some k) : s.vm.findClass E = some k := by
  have h1 : vm₁.findClass E = some k := h
  rw [hW.alike.findClass] at h1
  exact h1
/-- the method's frame g, with q thrown over it -/
def vx_W (p : Program) (l : Launch) (e : Env) (R : Room) (s : State) (m : MethodId) (args : Array Value) (below : List Frame) (meth : Method) (c : Code) (H : Heap) (locs : List Loc) (cells slots : Nat) (Q : State → Prop) (g : JFrame) (q : Addr) : Prop :=
  ∀ T : State, T.heap = H → Stand p l e R s m args below meth c T locs cells slots → ∃ t, Steps p.tables e below ((T.setTop g).pushFrame (.throwing q)) t ∧ Q t
def vx_Run (p : Program) (l : Launch) (e : Env) (R : Room) (s : State) (m : MethodId) (args : Array Value) (below : List Frame) (meth : Method) (c : Code) (H : Heap) (locs : List Loc) (cells slots mc ms : Nat) (g : JFrame) (rest : List Value) (Qa : State → Outcome → State → Prop) (XC : String → State → State → Prop) (free : Addr → Prop) : Prop :=
  ∀ T : State, T.heap = H → Stand p l e R s m args below meth c T locs cells slots →
    (∃ (v : Option Value) (st₀ t T' : State) (L : List Loc), st₀.heap = H ∧ Stand p l e R s m args below meth c T' (locs ++ L) (cells + mc) (slots + ms) ∧ (∀ q ∈ L, free q.base) ∧ T'.heap = t.heap ∧ T'.vm = t.vm ∧ Qa st₀ (.returned v) t ∧
      Goes p e below T g T' { g with pc := g.pc + 3, stack := v.toList ++ rest }) ∨
    (∃ (q : Addr) (st₀ t T' : State) (L : List Loc) (E : String) (ce : Cell), st₀.heap = H ∧ Stand p l e R s m args below meth c T' (locs ++ L) (cells + mc) (slots + ms) ∧ (∀ z ∈ L, free z.base) ∧ T'.heap = t.heap ∧ T'.vm = t.vm ∧ XC E st₀ t ∧ t.heap[q]? = some ce ∧ ce.vm = .none ∧ s.vm.findClass E = some ce.cls ∧
      Steps p.tables e below (T.setTop g) ((T'.setTop { g with stack := rest }).pushFrame (.throwing q)))
def vx_X {S : Type} (px : S → Prop) (B : String → S → State → Prop) (A : Nat → Prop) : String → State → State → Prop := fun E st t => ∃ u : S, px u ∧ B E u t ∧ va_F A st t
section Runs
variable {p : Program} {l : Launch} {e : Env} {R : Room} {s : State} {m : MethodId} {args : Array Value} {below : List Frame} {meth : Method} {c : Code} {H : Heap} {locs : List Loc} {cells slots : Nat}
variable {y : MethodName} {bytes cc : ByteArray} {maxL nL mc ms n index : Nat} {ret : Option FieldType} {ws : List Cond} {rm : Room} {Pc : Array Value → State → Prop} {Qc : Array Value → State → Outcome → State → Prop} {XC : String → State → State → Prop} {free : Addr → Prop} {Ts : List Cond} {own C : String} {b : Addr} {As rest : List Value} {g : JFrame}
theorem vx_callBack (cb : CallB R s args own index y bytes maxL ret ws rm mc ms n) (hM : vx_Met l y ws rm Pc Qc XC mc ms free) (hbl : FrameBlind Pc) : vx_Back l R p e below s args y 3 8 (PreOf R mc ms Pc) (PostOf Qc mc ms free) (vx_Post XC mc ms free) := by
  obtain ⟨hrc, hrs, hfr, hlo, hws, hcw, -, hini, -⟩ := cb
  exact vx_back (bytes := bytes) (maxL := maxL) (ret := ret) hM hbl hrc hrs hfr hlo hws hcw (fun a' U hW => word_at hW (Or.inl (by first | rfl | simp [Cond.onTables, Cond.keeps, Cond.steady])) hini)
theorem vx_runV (S : CallFix p m c cc nL s args Ts own) (hM : vx_Met l y ws rm Pc Qc XC mc ms free) (cw : CallW R s args own C index y bytes maxL ret ws rm mc ms n) (hp : PreV s H C b Pc As)
    (hg : g.method = m) (hn : As.length = n) (hsize : g.locals.size = nL) (hstack : g.stack = As.reverse ++ .ref b :: rest) (hW : 2 * g.monitorRoom + (rest.map fun v => v.category).sum ≤ 8) (hdg : decode cc g.pc = .ok (.invokevirtual index, 3)) (hf : cells + mc ≤ R.cells ∧ slots + ms ≤ R.slots) :
    vx_Run p l e R s m args below meth c H locs cells slots mc ms g rest (Qc (Value.ref b :: As).toArray) XC free := by
  have hK : vx_Back l R p e below s args y 3 8 (PreOf R mc ms Pc) (PostOf Qc mc ms free) (vx_Post XC mc ms free) := vx_callBack cw.1 hM hp.1
  obtain ⟨⟨-, -, -, -, -, -, hcode, -, hy, hlen, hl⟩, hin, hse⟩ := cw
  obtain ⟨hx, hb, hml, ho, -⟩ := S
  obtain ⟨-, ⟨cellB, hcB, hoB, hclB⟩, hPc⟩ := hp
  intro T hT X
  rcases vx_callV X hx (C := C) (bytes := bytes) (maxL := maxL) (ret := ret) ho hl hin hse hcode hy hK (by rw [hT]; exact hcB) hoB hclB hg (hsize.trans hml.symm) (argsL := As) (rest := rest) (fun sig h => hn.trans (hlen sig h)) hstack hW (by rw [hb]; exact hdg)
    (fun vm₁ hW₁ => ⟨hf.1, hf.2, hPc (T.setVm vm₁) hT hW₁⟩) with ⟨v, vm₁, ⟨U', l2, c2, s2⟩, hW₁, X', ⟨g', mk, t, L, e1, e2, hq, h1, hL, h2, h3⟩, st⟩ | ⟨q, vm₁, ⟨U', l2, c2, s2⟩, hW₁, X', ⟨g', mk, t, L, E, ce, e1, e2, hq, hce, hcv, hcl, h1, hL, h2, h3⟩, st⟩
  · dsimp only [Pt.U, Pt.locs, Pt.cells, Pt.slots] at X' e1 e2 h1 h2 h3 st
    subst h1; subst h2; subst h3
    exact Or.inl ⟨v, (T.setVm vm₁).calling g' mk (Value.ref b :: As).toArray, t, U', L, hT, X', hL, e1, e2, hq, st⟩
  · dsimp only [Pt.U, Pt.locs, Pt.cells, Pt.slots] at X' e1 e2 h1 h2 h3 st hcl
    subst h1; subst h2; subst h3
    exact Or.inr ⟨q, (T.setVm vm₁).calling g' mk (Value.ref b :: As).toArray, t, U', L, E, ce, hT, X', hL, e1, e2, hq, hce, hcv, vx_cls hW₁ hcl, st⟩
theorem vx_runS (S : CallFix p m c cc nL s args Ts own) (hM : vx_Met l y ws rm Pc Qc XC mc ms free) (cw : CallB R s args own index y bytes maxL ret ws rm mc ms n ∧ (Cond.static y).before args s = true) (hp : PreS s H Pc As)
    (hg : g.method = m) (hn : As.length = n) (hsize : g.locals.size = nL) (hstack : g.stack = As.reverse ++ rest) (hW : 2 * g.monitorRoom + (rest.map fun v => v.category).sum ≤ 8) (hdg : decode cc g.pc = .ok (.invokestatic index, 3)) (hf : cells + mc ≤ R.cells ∧ slots + ms ≤ R.slots) :
    vx_Run p l e R s m args below meth c H locs cells slots mc ms g rest (Qc As.toArray) XC free := by
  have hK : vx_Back l R p e below s args y 3 8 (PreOf R mc ms Pc) (PostOf Qc mc ms free) (vx_Post XC mc ms free) := vx_callBack cw.1 hM hp.1
  obtain ⟨⟨-, -, -, -, -, -, hcode, hini, hy, hlen, hl⟩, hstt⟩ := cw
  obtain ⟨hx, hb, hml, ho, -⟩ := S
  intro T hT X
  rcases vx_callS X hx (bytes := bytes) (maxL := maxL) (ret := ret) ho hl hstt hini hcode hy hK hg (hsize.trans hml.symm) (argsL := As) (rest := rest) (fun sig h => hn.trans (hlen sig h)) hstack hW (by rw [hb]; exact hdg)
    (fun vm₁ hW₁ => ⟨hf.1, hf.2, hp.2 (T.setVm vm₁) hT hW₁⟩) with ⟨v, vm₁, ⟨U', l2, c2, s2⟩, hW₁, X', ⟨g', mk, t, L, e1, e2, hq, h1, hL, h2, h3⟩, st⟩ | ⟨q, vm₁, ⟨U', l2, c2, s2⟩, hW₁, X', ⟨g', mk, t, L, E, ce, e1, e2, hq, hce, hcv, hcl, h1, hL, h2, h3⟩, st⟩
  · dsimp only [Pt.U, Pt.locs, Pt.cells, Pt.slots] at X' e1 e2 h1 h2 h3 st
    subst h1; subst h2; subst h3
    exact Or.inl ⟨v, (T.setVm vm₁).calling g' mk As.toArray, t, U', L, hT, X', hL, e1, e2, hq, st⟩
  · dsimp only [Pt.U, Pt.locs, Pt.cells, Pt.slots] at X' e1 e2 h1 h2 h3 st hcl
    subst h1; subst h2; subst h3
    exact Or.inr ⟨q, (T.setVm vm₁).calling g' mk As.toArray, t, U', L, E, ce, hT, X', hL, e1, e2, hq, hce, hcv, vx_cls hW₁ hcl, st⟩
end Runs
section Rows
variable {p : Program} {l : Launch} {e : Env} {R : Room} {s : State} {m : MethodId} {args : Array Value} {below : List Frame} {meth : Method} {c : Code} {H : Heap} {locs : List Loc} {cells slots : Nat} {Q : State → Prop}
variable {mc ms : Nat} {free : Addr → Prop} {A0 A1 : Nat → Prop} {H0 : Heap} {a : Array Value} {pc : Nat} {ls : Array Slot} {st0 rest : List Value}
theorem vx_keep {st₀ t T' : State} {L : List Loc} (h0 : st₀.heap = H) (e1 : T'.heap = t.heap) (hS : va_S A0 H0 H locs) (hA : ∀ q, q < H.size → A1 q → A0 q) (hf : ∀ q, free q → A0 q) (hL : ∀ q ∈ L, free q.base) (hF : va_F A1 st₀ t) :
    H.size ≤ T'.heap.size ∧ (∀ q : Nat, q < H.size → ¬ A1 q → T'.heap[q]? = H[q]?) ∧ va_S A0 H0 T'.heap (locs ++ L) := by
  obtain ⟨hz, hk⟩ := hF
  rw [h0] at hz hk
  exact ⟨by rw [e1]; exact hz, fun q h1 h2 => by rw [e1]; exact hk q h1 h2,
    ⟨Nat.le_trans hS.1 (by rw [e1]; exact hz), fun q h1 h2 => by rw [e1, hk q (Nat.lt_of_lt_of_le h1 hS.1) (fun z => h2 (hA q (Nat.lt_of_lt_of_le h1 hS.1) z))]; exact hS.2.1 q h1 h2, fun q hq => by
      rcases List.mem_append.mp hq with h | h
      · exact hS.2.2 q h
      · exact hf _ (hL q h)⟩⟩
theorem vx_calli {S SX : Type} {post : Int32 → S → Prop} {px : SX → Prop} {B : S → State → Prop} {BX : String → SX → State → Prop} {AX : Nat → Prop} (hr : vx_Run p l e R s m args below meth c H locs cells slots mc ms (F0 m pc ls st0) rest (va_Qi post B A1 a) (vx_X px BX AX) free) (hS : va_S A0 H0 H locs) (hA : ∀ q, q < H.size → A1 q → A0 q) (hf : ∀ q, free q → A0 q) (hAX : ∀ q, q < H.size → AX q → A0 q)
    (kx : ∀ (E : String) (ce : Cell) (q9 : Addr) (u : SX) (t : State) (H1 : Heap) (locs1 : List Loc), t.heap = H1 → s.vm.Alike t.vm → px u → BX E u t → H.size ≤ H1.size → (∀ q : Nat, q < H.size → ¬ AX q → H1[q]? = H[q]?) → va_S A0 H0 H1 locs1 → H1[q9]? = some ce → ce.vm = .none → s.vm.findClass E = some ce.cls → vx_W p l e R s m args below meth c H1 locs1 (cells + mc) (slots + ms) Q (F0 m pc ls rest) q9)
    (kk : ∀ (r : Int32) (u : S) (t : State) (H1 : Heap) (locs1 : List Loc), t.heap = H1 → s.vm.Alike t.vm → post r u → B u t → H.size ≤ H1.size → (∀ q : Nat, q < H.size → ¬ A1 q → H1[q]? = H[q]?) → va_S A0 H0 H1 locs1 → W p l e R s m args below meth c H1 locs1 (cells + mc) (slots + ms) Q (F0 m (pc + 3) ls (.int r :: rest))) : W p l e R s m args below meth c H locs cells slots Q (F0 m pc ls st0) := by
  intro T hT X
  rcases hr T hT X with ⟨v, st₀, t, T', L, h0, X', hL, e1, e2, ⟨⟨r, u, hv, hp, hb⟩, hF⟩, st⟩ | ⟨q, st₀, t, T', L, E, ce, h0, X', hL, e1, e2, ⟨u, hp, hb, hF⟩, hce, hcv, hcl, st⟩
  · cases hv
    obtain ⟨k1, k2, k3⟩ := vx_keep h0 e1 hS hA hf hL hF
    obtain ⟨t2, a1, b1⟩ := kk r u t T'.heap (locs ++ L) e1.symm (by rw [← e2]; exact X'.warmed.alike) hp hb k1 k2 k3 T' rfl X'
    exact ⟨t2, st t2 a1, b1⟩
  · obtain ⟨k1, k2, k3⟩ := vx_keep h0 e1 hS hAX hf hL hF
    obtain ⟨t2, a1, b1⟩ := kx E ce q u t T'.heap (locs ++ L) e1.symm (by rw [← e2]; exact X'.warmed.alike) hp hb k1 k2 k3 (by rw [e1]; exact hce) hcv hcl T' rfl X'
    exact ⟨t2, st.trans a1, b1⟩
theorem vx_calll {S SX : Type} {post : Int64 → S → Prop} {px : SX → Prop} {B : S → State → Prop} {BX : String → SX → State → Prop} {AX : Nat → Prop} (hr : vx_Run p l e R s m args below meth c H locs cells slots mc ms (F0 m pc ls st0) rest (va_Ql post B A1 a) (vx_X px BX AX) free) (hS : va_S A0 H0 H locs) (hA : ∀ q, q < H.size → A1 q → A0 q) (hf : ∀ q, free q → A0 q) (hAX : ∀ q, q < H.size → AX q → A0 q)
    (kx : ∀ (E : String) (ce : Cell) (q9 : Addr) (u : SX) (t : State) (H1 : Heap) (locs1 : List Loc), t.heap = H1 → s.vm.Alike t.vm → px u → BX E u t → H.size ≤ H1.size → (∀ q : Nat, q < H.size → ¬ AX q → H1[q]? = H[q]?) → va_S A0 H0 H1 locs1 → H1[q9]? = some ce → ce.vm = .none → s.vm.findClass E = some ce.cls → vx_W p l e R s m args below meth c H1 locs1 (cells + mc) (slots + ms) Q (F0 m pc ls rest) q9)
    (kk : ∀ (r : Int64) (u : S) (t : State) (H1 : Heap) (locs1 : List Loc), t.heap = H1 → s.vm.Alike t.vm → post r u → B u t → H.size ≤ H1.size → (∀ q : Nat, q < H.size → ¬ A1 q → H1[q]? = H[q]?) → va_S A0 H0 H1 locs1 → W p l e R s m args below meth c H1 locs1 (cells + mc) (slots + ms) Q (F0 m (pc + 3) ls (.long r :: rest))) : W p l e R s m args below meth c H locs cells slots Q (F0 m pc ls st0) := by
  intro T hT X
  rcases hr T hT X with ⟨v, st₀, t, T', L, h0, X', hL, e1, e2, ⟨⟨r, u, hv, hp, hb⟩, hF⟩, st⟩ | ⟨q, st₀, t, T', L, E, ce, h0, X', hL, e1, e2, ⟨u, hp, hb, hF⟩, hce, hcv, hcl, st⟩
  · cases hv
    obtain ⟨k1, k2, k3⟩ := vx_keep h0 e1 hS hA hf hL hF
    obtain ⟨t2, a1, b1⟩ := kk r u t T'.heap (locs ++ L) e1.symm (by rw [← e2]; exact X'.warmed.alike) hp hb k1 k2 k3 T' rfl X'
    exact ⟨t2, st t2 a1, b1⟩
  · obtain ⟨k1, k2, k3⟩ := vx_keep h0 e1 hS hAX hf hL hF
    obtain ⟨t2, a1, b1⟩ := kx E ce q u t T'.heap (locs ++ L) e1.symm (by rw [← e2]; exact X'.warmed.alike) hp hb k1 k2 k3 (by rw [e1]; exact hce) hcv hcl T' rfl X'
    exact ⟨t2, st.trans a1, b1⟩
theorem vx_callf {S SX : Type} {post : UInt32 → S → Prop} {px : SX → Prop} {B : S → State → Prop} {BX : String → SX → State → Prop} {AX : Nat → Prop} (hr : vx_Run p l e R s m args below meth c H locs cells slots mc ms (F0 m pc ls st0) rest (va_Qf post B A1 a) (vx_X px BX AX) free) (hS : va_S A0 H0 H locs) (hA : ∀ q, q < H.size → A1 q → A0 q) (hf : ∀ q, free q → A0 q) (hAX : ∀ q, q < H.size → AX q → A0 q)
    (kx : ∀ (E : String) (ce : Cell) (q9 : Addr) (u : SX) (t : State) (H1 : Heap) (locs1 : List Loc), t.heap = H1 → s.vm.Alike t.vm → px u → BX E u t → H.size ≤ H1.size → (∀ q : Nat, q < H.size → ¬ AX q → H1[q]? = H[q]?) → va_S A0 H0 H1 locs1 → H1[q9]? = some ce → ce.vm = .none → s.vm.findClass E = some ce.cls → vx_W p l e R s m args below meth c H1 locs1 (cells + mc) (slots + ms) Q (F0 m pc ls rest) q9)
    (kk : ∀ (r : UInt32) (u : S) (t : State) (H1 : Heap) (locs1 : List Loc), t.heap = H1 → s.vm.Alike t.vm → post r u → B u t → H.size ≤ H1.size → (∀ q : Nat, q < H.size → ¬ A1 q → H1[q]? = H[q]?) → va_S A0 H0 H1 locs1 → W p l e R s m args below meth c H1 locs1 (cells + mc) (slots + ms) Q (F0 m (pc + 3) ls (.float r :: rest))) : W p l e R s m args below meth c H locs cells slots Q (F0 m pc ls st0) := by
  intro T hT X
  rcases hr T hT X with ⟨v, st₀, t, T', L, h0, X', hL, e1, e2, ⟨⟨r, u, hv, hp, hb⟩, hF⟩, st⟩ | ⟨q, st₀, t, T', L, E, ce, h0, X', hL, e1, e2, ⟨u, hp, hb, hF⟩, hce, hcv, hcl, st⟩
  · cases hv
    obtain ⟨k1, k2, k3⟩ := vx_keep h0 e1 hS hA hf hL hF
    obtain ⟨t2, a1, b1⟩ := kk r u t T'.heap (locs ++ L) e1.symm (by rw [← e2]; exact X'.warmed.alike) hp hb k1 k2 k3 T' rfl X'
    exact ⟨t2, st t2 a1, b1⟩
  · obtain ⟨k1, k2, k3⟩ := vx_keep h0 e1 hS hAX hf hL hF
    obtain ⟨t2, a1, b1⟩ := kx E ce q u t T'.heap (locs ++ L) e1.symm (by rw [← e2]; exact X'.warmed.alike) hp hb k1 k2 k3 (by rw [e1]; exact hce) hcv hcl T' rfl X'
    exact ⟨t2, st.trans a1, b1⟩
theorem vx_calld {S SX : Type} {post : UInt64 → S → Prop} {px : SX → Prop} {B : S → State → Prop} {BX : String → SX → State → Prop} {AX : Nat → Prop} (hr : vx_Run p l e R s m args below meth c H locs cells slots mc ms (F0 m pc ls st0) rest (va_Qd post B A1 a) (vx_X px BX AX) free) (hS : va_S A0 H0 H locs) (hA : ∀ q, q < H.size → A1 q → A0 q) (hf : ∀ q, free q → A0 q) (hAX : ∀ q, q < H.size → AX q → A0 q)
    (kx : ∀ (E : String) (ce : Cell) (q9 : Addr) (u : SX) (t : State) (H1 : Heap) (locs1 : List Loc), t.heap = H1 → s.vm.Alike t.vm → px u → BX E u t → H.size ≤ H1.size → (∀ q : Nat, q < H.size → ¬ AX q → H1[q]? = H[q]?) → va_S A0 H0 H1 locs1 → H1[q9]? = some ce → ce.vm = .none → s.vm.findClass E = some ce.cls → vx_W p l e R s m args below meth c H1 locs1 (cells + mc) (slots + ms) Q (F0 m pc ls rest) q9)
    (kk : ∀ (r : UInt64) (u : S) (t : State) (H1 : Heap) (locs1 : List Loc), t.heap = H1 → s.vm.Alike t.vm → post r u → B u t → H.size ≤ H1.size → (∀ q : Nat, q < H.size → ¬ A1 q → H1[q]? = H[q]?) → va_S A0 H0 H1 locs1 → W p l e R s m args below meth c H1 locs1 (cells + mc) (slots + ms) Q (F0 m (pc + 3) ls (.double r :: rest))) : W p l e R s m args below meth c H locs cells slots Q (F0 m pc ls st0) := by
  intro T hT X
  rcases hr T hT X with ⟨v, st₀, t, T', L, h0, X', hL, e1, e2, ⟨⟨r, u, hv, hp, hb⟩, hF⟩, st⟩ | ⟨q, st₀, t, T', L, E, ce, h0, X', hL, e1, e2, ⟨u, hp, hb, hF⟩, hce, hcv, hcl, st⟩
  · cases hv
    obtain ⟨k1, k2, k3⟩ := vx_keep h0 e1 hS hA hf hL hF
    obtain ⟨t2, a1, b1⟩ := kk r u t T'.heap (locs ++ L) e1.symm (by rw [← e2]; exact X'.warmed.alike) hp hb k1 k2 k3 T' rfl X'
    exact ⟨t2, st t2 a1, b1⟩
  · obtain ⟨k1, k2, k3⟩ := vx_keep h0 e1 hS hAX hf hL hF
    obtain ⟨t2, a1, b1⟩ := kx E ce q u t T'.heap (locs ++ L) e1.symm (by rw [← e2]; exact X'.warmed.alike) hp hb k1 k2 k3 (by rw [e1]; exact hce) hcv hcl T' rfl X'
    exact ⟨t2, st.trans a1, b1⟩
theorem vx_callv {S SX : Type} {post : S → Prop} {px : SX → Prop} {B : S → State → Prop} {BX : String → SX → State → Prop} {AX : Nat → Prop} (hr : vx_Run p l e R s m args below meth c H locs cells slots mc ms (F0 m pc ls st0) rest (va_Qv post B A1 a) (vx_X px BX AX) free) (hS : va_S A0 H0 H locs) (hA : ∀ q, q < H.size → A1 q → A0 q) (hf : ∀ q, free q → A0 q) (hAX : ∀ q, q < H.size → AX q → A0 q)
    (kx : ∀ (E : String) (ce : Cell) (q9 : Addr) (u : SX) (t : State) (H1 : Heap) (locs1 : List Loc), t.heap = H1 → s.vm.Alike t.vm → px u → BX E u t → H.size ≤ H1.size → (∀ q : Nat, q < H.size → ¬ AX q → H1[q]? = H[q]?) → va_S A0 H0 H1 locs1 → H1[q9]? = some ce → ce.vm = .none → s.vm.findClass E = some ce.cls → vx_W p l e R s m args below meth c H1 locs1 (cells + mc) (slots + ms) Q (F0 m pc ls rest) q9)
    (kk : ∀ (u : S) (t : State) (H1 : Heap) (locs1 : List Loc), t.heap = H1 → s.vm.Alike t.vm → post u → B u t → H.size ≤ H1.size → (∀ q : Nat, q < H.size → ¬ A1 q → H1[q]? = H[q]?) → va_S A0 H0 H1 locs1 → W p l e R s m args below meth c H1 locs1 (cells + mc) (slots + ms) Q (F0 m (pc + 3) ls (rest))) : W p l e R s m args below meth c H locs cells slots Q (F0 m pc ls st0) := by
  intro T hT X
  rcases hr T hT X with ⟨v, st₀, t, T', L, h0, X', hL, e1, e2, ⟨⟨u, hv, hp, hb⟩, hF⟩, st⟩ | ⟨q, st₀, t, T', L, E, ce, h0, X', hL, e1, e2, ⟨u, hp, hb, hF⟩, hce, hcv, hcl, st⟩
  · cases hv
    obtain ⟨k1, k2, k3⟩ := vx_keep h0 e1 hS hA hf hL hF
    obtain ⟨t2, a1, b1⟩ := kk u t T'.heap (locs ++ L) e1.symm (by rw [← e2]; exact X'.warmed.alike) hp hb k1 k2 k3 T' rfl X'
    exact ⟨t2, st t2 a1, b1⟩
  · obtain ⟨k1, k2, k3⟩ := vx_keep h0 e1 hS hAX hf hL hF
    obtain ⟨t2, a1, b1⟩ := kx E ce q u t T'.heap (locs ++ L) e1.symm (by rw [← e2]; exact X'.warmed.alike) hp hb k1 k2 k3 (by rw [e1]; exact hce) hcv hcl T' rfl X'
    exact ⟨t2, st.trans a1, b1⟩
/-- caught by the row x of this method's table; the rows ahead don't take it -/
theorem vx_catch {own name : String} {E : String} {ce : Cell} {q : Addr} (hown : s.vm.findClass own = some m.cls) (pre : List ExceptionTableEntry) (x : ExceptionTableEntry) (suf : List ExceptionTableEntry) (hsplit : c.exceptionTable.toList = pre ++ x :: suf)
    (hpass : ∀ z ∈ pre, covers z pc = false ∨ (z.catchType ≠ 0 ∧ ∃ nm : String, (Cond.classLink own z.catchType nm).before args s = true ∧ va_Nc E nm s)) (hx : covers x pc = true) (h0 : x.catchType ≠ 0)
    (hlink : (Cond.classLink own x.catchType name).before args s = true) (hcast : (Cond.castable E name).before args s = true) (hcell : H[q]? = some ce) (hv : ce.vm = .none) (hcl : s.vm.findClass E = some ce.cls)
    (kk : W p l e R s m args below meth c H locs cells slots Q (F0 m x.handlerPc ls [.ref q])) : vx_W p l e R s m args below meth c H locs cells slots Q (F0 m pc ls rest) q := by
  intro T hT X
  have hpl : e.platform.magicAccessors = ({} : Platform).magicAccessors := by rw [X.admits.platform]
  obtain ⟨c3, c4, hc3, hc4, hasg⟩ := Cond.castable_spec hcast
  cases Option.some.inj (hc3.symm.trans hcl)
  obtain ⟨c5, hc5, hcl5⟩ := Cond.classLink_spec hown hlink e.platform hpl
  cases Option.some.inj (hc4.symm.trans hc5)
  obtain ⟨vm', X', st⟩ := X.thenCaughtThrough q (g := F0 m pc ls rest) rfl (Steps.refl _) (by rw [hT]; exact hcell) (by rw [hv]; rfl) (by obtain ⟨k9, h9, -⟩ := Vm.findClass_spec hcl; exact ⟨k9, h9⟩) pre x suf hsplit
    (fun z hz => by
      rcases hpass z hz with h | ⟨hz0, nm, hl1, hn1⟩
      · exact Or.inl h
      · obtain ⟨c6, hc6, hcl6⟩ := Cond.classLink_spec hown hl1 e.platform hpl
        obtain ⟨a8, b8, h1, h2, h3⟩ := hn1
        cases Option.some.inj (h1.symm.trans hcl)
        cases Option.some.inj (h2.symm.trans hc6)
        exact Or.inr ⟨hz0, _, hcl6, h3⟩) hx (Or.inr ⟨h0, c4, hcl5, hasg⟩)
  obtain ⟨t, a1, b1⟩ := kk (T.setVm vm') hT X'
  exact ⟨t, st.trans a1, b1⟩
end Rows
section Ends
variable {p : Program} {l : Launch} {e : Env} {R : Room} {s : State} {m : MethodId} {args : Array Value} {below : List Frame} {meth : Method} {c : Code} {H : Heap} {locs : List Loc} {cells slots : Nat} {Q : State → Prop}
variable {mc ms : Nat} {free : Addr → Prop} {A0 A1 : Nat → Prop} {H0 : Heap} {a : Array Value} {ls : Array Slot} {st0 rest : List Value}
variable {Qc : Array Value → State → Outcome → State → Prop} {XC : String → State → State → Prop}
/-- what a body that may throw owes at its end -/
def vx_MQ (below : List Frame) (Qc : Array Value → State → Outcome → State → Prop) (XC : String → State → State → Prop) (a : Array Value) (s : State) (mc ms : Nat) (free : Addr → Prop) : State → Prop := fun t =>
  ∃ o, t.status = .running ∧ Ended t below o ∧ vx_Q Qc XC mc ms free a s o t
theorem vx_ret {g : JFrame} {mc ms : Nat} (k : W p l e R s m args below meth c H locs cells slots (MQ below Qc args s mc ms free) g) : W p l e R s m args below meth c H locs cells slots (vx_MQ below Qc XC args s mc ms free) g := by
  intro T hT X
  obtain ⟨t, a1, o, b1, b2, b3, b4⟩ := k T hT X
  exact ⟨t, a1, o, b1, b2, Or.inl ⟨b3, b4⟩⟩
/-- not caught here: it goes on to the caller -/
theorem vx_widen {g : JFrame} {q : Addr} {k n : Nat} (h1 : cells ≤ k) (h2 : slots ≤ n) (kk : vx_W p l e R s m args below meth c H locs k n Q g q) : vx_W p l e R s m args below meth c H locs cells slots Q g q := fun T hT X => kk T hT (stand_widen X h1 h2)
theorem vx_out {pc : Nat} {E : String} {ce : Cell} {q : Addr} {mc ms : Nat} (hout : ∀ x ∈ c.exceptionTable.toList, covers x pc = false) (hlocks : meth.locks = false) (hcell : H[q]? = some ce) (hv : ce.vm = .none) (hcl : s.vm.findClass E = some ce.cls)
    (hx : ∀ t : State, t.heap = H → s.vm.Alike t.vm → XC E s t) (hf : ∀ z ∈ locs, free z.base) (hc : cells ≤ mc) (hs : slots ≤ ms) :
    vx_W p l e R s m args below meth c H locs cells slots (vx_MQ below Qc XC args s mc ms free) (F0 m pc ls rest) q := by
  intro T hT X
  obtain ⟨st1, hrun, hend, hW, hsm⟩ := X.leaveThrown q (g := F0 m pc ls rest) rfl rfl rfl hout hlocks
  have hcell9 : (T.setFrames (.throwing q :: below)).heap[q]? = some ce := by
    show T.heap[q]? = some ce
    rw [hT]; exact hcell
  exact ⟨_, st1, .threw q, hrun, hend, Or.inr ⟨q, rfl, E, ce, locs, hx _ hT hW.alike, hcell9, hv, hcl, hW, hsm.mono hc hs, hf⟩⟩
theorem vx_frame {U : State} {k n : Nat} (h : s.sameButNew ({ U with vm := s.vm } : State) locs k n) : s.heap.size ≤ U.heap.size ∧ ∀ q : Nat, q < s.heap.size → (∀ z ∈ locs, z.base ≠ q) → U.heap[q]? = s.heap[q]? := by
  obtain ⟨-, h2, -, -, -, h6⟩ := h
  refine ⟨h2, fun q hq hz => ?_⟩
  obtain ⟨c9, e1, e2, e3, e4⟩ := h6 q _ (Array.getElem?_eq_getElem hq)
  have hs : c9.slots = (s.heap[q]).slots := Array.ext_getElem? fun i => e4 i fun hm => hz _ hm rfl
  have h9 : c9 = s.heap[q] := by
    rw [hs] at e2
    exact e2
  have e5 : U.heap[q]? = some c9 := e1
  rw [e5, h9, Array.getElem?_eq_getElem hq]
/-- the words of a throw but the four that speak of the heap -/
def vx_no (w : Cond) : Bool := decide (w ≠ .isRef (.static Bundle.tN "UNASSIGNED_STACK" Bundle.steD)) && decide (w ≠ .isRef (.static Bundle.tN "SUPPRESSED_SENTINEL" Bundle.listD)) && decide (w ≠ .laysStatic Bundle.tN "UNASSIGNED_STACK" Bundle.steD) && decide (w ≠ .laysStatic Bundle.tN "SUPPRESSED_SENTINEL" Bundle.listD)
def vx_at0 (own : String) (ic : Nat) (X : String) (names : List String) : List Cond := (Bundle.ownAtoms0 own ic X names).filter vx_no
def vx_atS (own : String) (ic : Nat) (X : String) (names : List String) : List Cond := (Bundle.ownAtoms own ic X names).filter vx_no
/-- a word that the tables alone decide, or a good one -/
def vx_ot (w : Cond) : Bool := w.onTables || goodWord w
theorem vx_ot_at {args a' : Array Value} {s U : State} {w : Cond} (hW : s.WarmedH U.vm) (hvm : s.vm = U.vm) (hg : vx_ot w = true) (h : w.before args s = true) : w.before a' U = true := by
  simp only [vx_ot, Bool.or_eq_true] at hg
  rcases hg with hg | hg
  · exact va_tabs hg hvm h
  · exact word_at hW (good_of_word hg) h
/-- a list's words: the good ones out of the method's own list, the others by premises of their own -/
theorem vx_hat {args : Array Value} {s : State} {L B : List Cond} (h1 : ∀ w ∈ L.filter goodWord, w.before args s = true) (h2 : ∀ w ∈ L.filter (fun w => !goodWord w), w ∈ B) (h3 : ∀ w ∈ B, w.before args s = true) : ∀ w ∈ L, w.before args s = true := by
  intro w hw
  by_cases g : goodWord w = true
  · exact h1 w (List.mem_filter.mpr ⟨hw, g⟩)
  · refine h3 w (h2 w (List.mem_filter.mpr ⟨hw, ?_⟩))
    show (!goodWord w) = true
    cases hgw : goodWord w
    · rfl
    · exact absurd hgw g
theorem vx_c {args : Array Value} {s : State} {w : Cond} {B : List Cond} (h : w.before args s = true) (t : ∀ w ∈ B, w.before args s = true) : ∀ w' ∈ w :: B, w'.before args s = true := fun w' h' => (List.mem_cons.mp h').elim (fun e => by rw [e]; exact h) (t w')
theorem vx_n {args : Array Value} {s : State} : ∀ w ∈ ([] : List Cond), w.before args s = true := fun _ h => nomatch h
theorem vx_own {args : Array Value} {s : State} {L : List Cond} (h1 : ∀ w ∈ L.filter vx_no, w.before args s = true)
    (hU : (Cond.isRef (.static Bundle.tN "UNASSIGNED_STACK" Bundle.steD)).before args s = true) (hN : (Cond.isRef (.static Bundle.tN "SUPPRESSED_SENTINEL" Bundle.listD)).before args s = true)
    (lU : (Cond.laysStatic Bundle.tN "UNASSIGNED_STACK" Bundle.steD).before args s = true) (lN : (Cond.laysStatic Bundle.tN "SUPPRESSED_SENTINEL" Bundle.listD).before args s = true) : ∀ w ∈ L, w.before args s = true := by
  intro w hw
  by_cases e1 : w = .isRef (.static Bundle.tN "UNASSIGNED_STACK" Bundle.steD)
  · rw [e1]; exact hU
  · by_cases e2 : w = .isRef (.static Bundle.tN "SUPPRESSED_SENTINEL" Bundle.listD)
    · rw [e2]; exact hN
    · by_cases e3 : w = .laysStatic Bundle.tN "UNASSIGNED_STACK" Bundle.steD
      · rw [e3]; exact lU
      · by_cases e4 : w = .laysStatic Bundle.tN "SUPPRESSED_SENTINEL" Bundle.listD
        · rw [e4]; exact lN
        · exact h1 w (List.mem_filter.mpr ⟨hw, by unfold vx_no; rw [decide_eq_true e1, decide_eq_true e2, decide_eq_true e3, decide_eq_true e4]; rfl⟩)
/-- where a static field lies, its class's statics cell in H -/
def vx_L (C n d : String) (A : Nat → Prop) (U : State) (H : Heap) : Prop := ∃ (c : ClassId) (k : Class) (i : Nat) (f : Field) (a : Nat) (cell : Cell), U.vm.findClass C = some c ∧ U.fieldFound? C n d = some (c, k, i, f) ∧ f.isStatic = true ∧ k.statics = some a ∧ H[a]? = some cell ∧ cell.vm.isStatics = true ∧ cell.cls = c ∧ f.slot < cell.slots.size ∧ k.staticTypes[f.slot]? = some f.type ∧ ¬ A a
theorem vx_L.moved {C n d : String} {A : Nat → Prop} {u U : State} {H : Heap} (hvm : u.vm.Alike U.vm) (h : vx_L C n d A u H) : vx_L C n d A U H := by
  obtain ⟨c, k, i, f, a, cell, h1, h2, h3, h4, h5, h6, h7, h8, h9, h10⟩ := h
  obtain ⟨k', hi', he⟩ := State.fieldFound?_setVm hvm h2
  exact ⟨c, k', i, f, a, cell, by rw [hvm.findClass]; exact h1, hi', h3, by rw [he]; exact h4, h5, h6, h7, h8, by rw [he]; exact h9, h10⟩
theorem vx_L.kept {C n d : String} {A : Nat → Prop} {U : State} {H H1 : Heap} (h : vx_L C n d A U H) (hq : ∀ a : Nat, a < H.size → ¬ A a → H1[a]? = H[a]?) : vx_L C n d A U H1 := by
  obtain ⟨c, k, i, f, a, cell, h1, h2, h3, h4, h5, h6, h7, h8, h9, h10⟩ := h
  exact ⟨c, k, i, f, a, cell, h1, h2, h3, h4, by rw [hq a (Array.getElem?_eq_some_iff.mp h5).1 h10]; exact h5, h6, h7, h8, h9, h10⟩
theorem vx_L.narrow {C n d : String} {A B : Nat → Prop} {U : State} {H : Heap} (h : vx_L C n d A U H) (hAB : ∀ q, B q → A q) : vx_L C n d B U H := by
  obtain ⟨c, k, i, f, a, cell, h1, h2, h3, h4, h5, h6, h7, h8, h9, h10⟩ := h
  exact ⟨c, k, i, f, a, cell, h1, h2, h3, h4, h5, h6, h7, h8, h9, fun z => h10 (hAB _ z)⟩
theorem vx_L.word {C n d : String} {A : Nat → Prop} {s : State} {args : Array Value} (h : vx_L C n d A s s.heap) : (Cond.laysStatic C n d).before args s = true := by
  obtain ⟨c, k, i, f, a, cell, h1, h2, h3, h4, h5, h6, h7, h8, h9, -⟩ := h
  show (Cond.laysStatic C n d).holds args s none s [] = true
  exact Cond.laysStatic_of h1 h2 h3 h4 h5 h6 h7 h8 h9
/-- .. and what it holds: null or some reference -/
def vx_Zq (C n d : String) (A : Nat → Prop) (U : State) (H : Heap) : Prop := va_Zq C n d A U H ∧ vx_L C n d A U H
theorem vx_Zq.moved {C n d : String} {A : Nat → Prop} {u U : State} {H : Heap} (hvm : u.vm.Alike U.vm) (h : vx_Zq C n d A u H) : vx_Zq C n d A U H := ⟨va_Zq.moved hvm h.1, vx_L.moved hvm h.2⟩
theorem vx_Zq.kept {C n d : String} {A : Nat → Prop} {U : State} {H H1 : Heap} (h : vx_Zq C n d A U H) (hq : ∀ a : Nat, a < H.size → ¬ A a → H1[a]? = H[a]?) : vx_Zq C n d A U H1 := ⟨va_Zq.kept h.1 hq, vx_L.kept h.2 hq⟩
theorem vx_Zq.narrow {C n d : String} {A B : Nat → Prop} {U : State} {H : Heap} (h : vx_Zq C n d A U H) (hAB : ∀ q, B q → A q) : vx_Zq C n d B U H := ⟨va_Zq.narrow h.1 hAB, vx_L.narrow h.2 hAB⟩
theorem vx_Zqof {args : Array Value} {s : State} {C n d : String} {A : Nat → Prop} (hl : (Cond.laysStatic C n d).before args s = true) (hini : (Cond.initialized C).before args s = true) (h : (Cond.isRef (.static C n d)).before args s = true) (hA : ∀ a : Nat, a < s.heap.size → ¬ A a) : vx_Zq C n d A s s.heap := by
  refine ⟨va_Zqof hl hini h hA, ?_⟩
  obtain ⟨c, k, i, f, a, cell, h1, h2, h3, h4, h5, h6, h7, h8, h9⟩ := Cond.laysStatic_spec hl
  exact ⟨c, k, i, f, a, cell, h1, h2, h3, h4, h5, h6, h7, h8, h9, hA a (Array.getElem?_eq_some_iff.mp h5).1⟩
theorem vx_isRef {C n d : String} {v : Value} {A : Nat → Prop} {s : State} {args : Array Value} (h : va_Z C n d v A s s.heap) (hv : v.isRef = true) : (Cond.isRef (.static C n d)).before args s = true := by
  obtain ⟨cf, kf, fi, f, a, cell, h1, h2, h3, h4, h5, h6, h7, -⟩ := h
  have he : (Term.static C n d).eval args s none [] s = some v := by
    simp [Term.eval, State.fieldNamed?, h1, h2, h4, h5, h6, h7]
  simp only [Cond.before, Cond.holds, Cond.value, he]
  cases v <;> simp_all [Value.isRef]
theorem vx_isRefq {C n d : String} {A : Nat → Prop} {s : State} {args : Array Value} (h : va_Zq C n d A s s.heap) : (Cond.isRef (.static C n d)).before args s = true := by
  rcases h with h | ⟨t, h⟩
  · exact vx_isRef h rfl
  · exact vx_isRef h rfl
/-- the same frame, seen from here: as if the method were called anew in this heap -/
theorem vx_rebase {T : State} (X : Stand p l e R s m args below meth c T locs cells slots) {R' : Room} (hf : R'.frames ≤ R.frames) (hl : R'.locals ≤ R.locals) (hc : cells + R'.cells ≤ R.cells) (hs : slots + R'.slots ≤ R.slots) :
    Stand p l e R' ((T.setVm s.vm).setFrames (.invoking m args :: below)) m args below meth c T [] 0 0 := by
  have htop : (T.setVm s.vm).topJava?.isSome := X.here.top
  have hF : ((T.setVm s.vm).setFrames (.invoking m args :: below)).frames = .invoking m args :: below := State.frames_setFrames _ (State.cur_lt_of_top htop)
  obtain ⟨g₀, hg0⟩ := Option.isSome_iff_exists.mp htop
  obtain ⟨r, hr⟩ := State.topJava?_eq_some.mp hg0
  have hl9 : e.platform.stackLimits (T.setVm s.vm).me = e.platform.stackLimits s.me := X.limits
  have hb9 : (T.setVm s.vm).me.stackBytes = s.me.stackBytes := X.bytes
  refine ⟨X.admits, X.cas, X.clock, hF, ?_, X.hears, X.method, X.code, X.here, X.tail, X.warmed, ?_, ?_, ?_⟩
  · have h := X.room
    have hU : ((T.setVm s.vm).setFrames (.invoking m args :: below)).localsInUse = s.localsInUse := by
      rw [State.localsInUse_invoking hF (meth := meth) (c := c) X.method X.code, State.localsInUse_invoking X.frames X.method X.code]
    simp only [State.hasRoom, Bool.and_eq_true, decide_eq_true_eq] at h ⊢
    obtain ⟨⟨⟨⟨h1, h2, h3, h4, h5, h6⟩, h7⟩, h8⟩, h9⟩ := h
    rw [X.frames, List.length_cons] at h2 h3
    have q1 := X.heapSize
    have q2 := X.used
    simp only [hF, hU, List.length_cons, State.stackLimits_setFrames, State.stackBytes_setFrames, hl9, hb9]
    refine ⟨⟨⟨⟨by omega, by omega, by omega, by omega, by omega, h6⟩, ?_⟩, ?_⟩, X.book⟩
    · show T.heap.size + R'.cells ≤ e.platform.maxCells
      omega
    · show T.slotsUsed + R'.slots ≤ e.platform.maxSlots
      omega
  · rw [State.stackLimits_setFrames]; rfl
  · rw [State.stackBytes_setFrames]; rfl
  · refine ⟨?_, Nat.le_refl _, Nat.le_refl _, ?_, ?_, fun a c9 h9 => ⟨c9, h9, rfl, rfl, fun _ _ => rfl⟩⟩
    · obtain ⟨t, ht, -⟩ := State.frames_cons hr
      show T.setVm s.vm = { ((T.setVm s.vm).setFrames (.invoking m args :: below)).setFrames (T.setVm s.vm).frames with heap := T.heap, slotsUsed := T.slotsUsed }
      rw [State.setFrames_setFrames, State.setFrames_self ht]
      rfl
    · show T.slotsUsed = T.slotsUsed + ((T.heap.toList.drop T.heap.size).map (·.slots.size)).sum
      rw [List.drop_eq_nil_of_le (Nat.le_of_eq Array.length_toList)]
      rfl
    · show ((T.heap.toList.drop T.heap.size).map (·.slots.size)).sum ≤ 0
      rw [List.drop_eq_nil_of_le (Nat.le_of_eq Array.length_toList)]
      exact Nat.le_refl _
/-- 'throw new E()': new; dup; invokespecial; athrow -/
theorem vx_throw0 {cc : ByteArray} {pc : Nat} (hexec : p.tables.exec = Jvm.exec) (hb : c.code = cc) (hl : l.stackTraces = false) {own cls : String} {names : List String} {ik ic mc ms : Nat} {A : Nat → Prop}
    (hown : s.vm.findClass own = some m.cls) (hcls : Bundle.fit cls = true) (hnames : ∀ n ∈ names, Bundle.fit n = true)
    (hk : (Cond.classLink own ik cls).before args s = true) (hini : (Cond.initialized cls).before args s = true) (hat : ∀ w ∈ vx_at0 own ic cls names, w.before args s = true)
    (hgood : ∀ w ∈ Cond.classLink own ik cls :: Cond.initialized cls :: vx_at0 own ic cls names, vx_ot w = true)
    (hU : vx_Zq Bundle.tN "UNASSIGNED_STACK" Bundle.steD A s s.heap) (hN : vx_Zq Bundle.tN "SUPPRESSED_SENTINEL" Bundle.listD A s s.heap) (hS : va_S A s.heap H locs) (hsize : ls.size = c.maxLocals)
    (d0 : decode cc pc = .ok (.new ik, 3)) (d3 : decode cc (pc + 3) = .ok (.dup, 1)) (d4 : decode cc (pc + 4) = .ok (.invokespecial ic, 3)) (d7 : decode cc (pc + 7) = .ok (.athrow, 1))
    (hout : ∀ x ∈ c.exceptionTable.toList, covers x (pc + 7) = false)
    (hRframes : names.length + 3 < R.frames) (hRlocals : (rest.map fun v => v.category).sum + (13 * (names.length + 1) + 42) ≤ R.locals) (hRcells : cells + 1 ≤ R.cells) (hRslots : slots + 6 ≤ R.slots) (hlocks : meth.locks = false)
    (hx : ∀ t : State, s.vm.Alike t.vm → H.size ≤ t.heap.size → (∀ q : Nat, q < H.size → t.heap[q]? = H[q]?) → XC cls s t)
    (hf : ∀ z ∈ locs, free z.base) (hc : cells + 1 ≤ mc) (hs : slots + 6 ≤ ms) :
    W p l e R s m args below meth c H locs cells slots (vx_MQ below Qc XC args s mc ms free) (F0 m pc ls rest) := by
  intro T hT X
  have htr : e.platform.stackTraces = false := (show e.platform.stackTraces = l.stackTraces by rw [X.admits.platform]).trans hl
  have Y := vx_rebase X (R' := { frames := R.frames, locals := R.locals, cells := 1, slots := 6 }) (Nat.le_refl _) (Nat.le_refl _) hRcells hRslots
  obtain ⟨s', hA⟩ : ∃ z, z = (T.setVm s.vm).setFrames (.invoking m args :: below) := ⟨_, rfl⟩
  rw [← hA] at Y
  have hvm : s'.vm = s.vm := by rw [hA]; rfl
  have hhp : s'.heap = H := by rw [hA]; exact hT
  have hW0 : s.WarmedH s'.vm := by rw [hvm]; exact State.WarmedH.refl s
  have hat' : ∀ w ∈ vx_at0 own ic cls names, w.before args s' = true := fun w hw => vx_ot_at hW0 hvm.symm (hgood w (List.mem_cons_of_mem _ (List.mem_cons_of_mem _ hw))) (hat w hw)
  have hk' : (Cond.classLink own ik cls).before args s' = true := vx_ot_at hW0 hvm.symm (hgood _ List.mem_cons_self) hk
  have hini' : (Cond.initialized cls).before args s' = true := vx_ot_at hW0 hvm.symm (hgood _ (List.mem_cons_of_mem _ List.mem_cons_self)) hini
  have hU' : vx_Zq Bundle.tN "UNASSIGNED_STACK" Bundle.steD A s' s'.heap := by rw [hhp]; exact vx_Zq.moved hW0.alike (hU.kept hS.2.1)
  have hN' : vx_Zq Bundle.tN "SUPPRESSED_SENTINEL" Bundle.listD A s' s'.heap := by rw [hhp]; exact vx_Zq.moved hW0.alike (hN.kept hS.2.1)
  have h : ∀ w ∈ Bundle.ownAtoms0 own ic cls names, w.before args s' = true := vx_own hat' (vx_isRefq hU'.1) (vx_isRefq hN'.1) hU'.2.word hN'.2.word
  have hown' : s'.vm.findClass own = some m.cls := by rw [hvm]; exact hown
  have hins : (Cond.instantiable cls 6).before args s' = true := h _ (by simp [Bundle.ownAtoms0])
  obtain ⟨vm₁, cX, kX, hfX, hkX, -, -, X₁, st1⟩ := Y.newCold hexec (own := own) (C := cls) (index := ik) (n := 6) hown' hk' hins hini'
    (g := F0 m pc ls rest) rfl (by rw [hb]; exact d0) (Nat.le_refl _) (Nat.le_refl _)
  generalize hT1 : (T.setVm vm₁).pushCell { cls := cX, slots := kX.instanceTypes.map defaultValue, vm := .none } = T1 at X₁ st1
  have hcat : (Value.ref T.heap.size).category = 1 := rfl
  have hcellA : T1.heap[T.heap.size]? = some (freshCell cX kX) := by rw [← hT1]; exact State.heap_pushCell_size _ _
  have d3' : decode c.code (pc + 3) = .ok (.dup, 1) := by rw [hb]; exact d3
  obtain ⟨U, hsteps, hrun, hend, hW, hsame, ce, hce, hO⟩ := X₁.ctorThrow0 hexec htr (own := own) (cls := cls) (names := names) (ic := ic) hown' hcls hnames h (fun x hx => nomatch hx) hfX hkX hcellA (by rw [hhp, hT]; exact Nat.le_refl _)
    (g := { method := m, pc := pc + 4, locals := ls, stack := .ref T.heap.size :: .ref T.heap.size :: rest, locked := none }) rfl hsize rfl rfl (rest := rest) rfl
    (by rw [hb]; exact d4) (by rw [hb]; exact d7) hout hRframes (by simp only [List.map_cons, List.sum_cons, hcat]; omega) hlocks
  obtain ⟨f1, f2⟩ := vx_frame hsame
  rw [hhp] at f1 f2
  have hWs : s.WarmedH U.vm := State.WarmedH.trans hW0 hW
  have hcl : s.vm.findClass cls = some ce.cls := by
    have h9 := hO.cls
    rw [hvm] at h9
    exact h9
  have hall : s.sameButNew ({ U with vm := s.vm } : State) locs mc ms := by
    subst hA
    obtain ⟨e1, e2⟩ := hsame
    rw [State.setFrames_setFrames] at e1
    have h2 : (T.setVm s.vm).sameButNew ({ U with vm := s.vm } : State) [] (0 + 1) (0 + 6) := ⟨e1, e2⟩
    have h3 := X.same.trans h2
    rw [List.append_nil] at h3
    exact h3.mono hc hs
  refine ⟨U, ?_, .threw T.heap.size, hrun, hend, Or.inr ⟨T.heap.size, rfl, cls, ce, locs, hx U hWs.alike f1 (fun q hq => f2 q hq (fun z hz => nomatch hz)), hce, hO.vm, hcl, hWs, hall, hf⟩⟩
  refine st1 _ ?_
  show Steps p.tables e below (T1.setTop { method := m, pc := pc + 3, locals := ls, stack := .ref T.heap.size :: rest, locked := none }) _
  jvm_step X₁.here [X₁.here.top, hexec, d3', Value.category]
  exact hsteps
/-- 'throw new E("text")': new; dup; ldc; invokespecial; athrow -/
theorem vx_throwS {cc : ByteArray} {pc : Nat} (hexec : p.tables.exec = Jvm.exec) (hb : c.code = cc) (hl : l.stackTraces = false) {own cls text : String} {names : List String} {ik is ic mc ms sa : Nat} {A : Nat → Prop}
    (hown : s.vm.findClass own = some m.cls) (hcls : Bundle.fit cls = true) (hnames : ∀ n ∈ names, Bundle.fit n = true)
    (hk : (Cond.classLink own ik cls).before args s = true) (hini : (Cond.initialized cls).before args s = true) (hstr : vk_R own is text sa s) (hat : ∀ w ∈ vx_atS own ic cls names, w.before args s = true)
    (hgood : ∀ w ∈ Cond.classLink own ik cls :: Cond.initialized cls :: vx_atS own ic cls names, vx_ot w = true)
    (hU : vx_Zq Bundle.tN "UNASSIGNED_STACK" Bundle.steD A s s.heap) (hN : vx_Zq Bundle.tN "SUPPRESSED_SENTINEL" Bundle.listD A s s.heap) (hS : va_S A s.heap H locs) (hsize : ls.size = c.maxLocals)
    (d0 : decode cc pc = .ok (.new ik, 3)) (d3 : decode cc (pc + 3) = .ok (.dup, 1)) (d4 : decode cc (pc + 4) = .ok (.ldc is, 2)) (d6 : decode cc (pc + 6) = .ok (.invokespecial ic, 3)) (d9 : decode cc (pc + 9) = .ok (.athrow, 1))
    (hout : ∀ x ∈ c.exceptionTable.toList, covers x (pc + 9) = false)
    (hRframes : names.length + 3 < R.frames) (hRlocals : (rest.map fun v => v.category).sum + (13 * (names.length + 1) + 43) ≤ R.locals) (hRcells : cells + 1 ≤ R.cells) (hRslots : slots + 6 ≤ R.slots) (hlocks : meth.locks = false)
    (hx : ∀ t : State, s.vm.Alike t.vm → H.size ≤ t.heap.size → (∀ q : Nat, q < H.size → t.heap[q]? = H[q]?) → XC cls s t)
    (hf : ∀ z ∈ locs, free z.base) (hc : cells + 1 ≤ mc) (hs : slots + 6 ≤ ms) :
    W p l e R s m args below meth c H locs cells slots (vx_MQ below Qc XC args s mc ms free) (F0 m pc ls rest) := by
  intro T hT X
  have htr : e.platform.stackTraces = false := (show e.platform.stackTraces = l.stackTraces by rw [X.admits.platform]).trans hl
  have Y := vx_rebase X (R' := { frames := R.frames, locals := R.locals, cells := 1, slots := 6 }) (Nat.le_refl _) (Nat.le_refl _) hRcells hRslots
  obtain ⟨s', hA⟩ : ∃ z, z = (T.setVm s.vm).setFrames (.invoking m args :: below) := ⟨_, rfl⟩
  rw [← hA] at Y
  have hvm : s'.vm = s.vm := by rw [hA]; rfl
  have hhp : s'.heap = H := by rw [hA]; exact hT
  have hW0 : s.WarmedH s'.vm := by rw [hvm]; exact State.WarmedH.refl s
  have hat' : ∀ w ∈ vx_atS own ic cls names, w.before args s' = true := fun w hw => vx_ot_at hW0 hvm.symm (hgood w (List.mem_cons_of_mem _ (List.mem_cons_of_mem _ hw))) (hat w hw)
  have hk' : (Cond.classLink own ik cls).before args s' = true := vx_ot_at hW0 hvm.symm (hgood _ List.mem_cons_self) hk
  have hini' : (Cond.initialized cls).before args s' = true := vx_ot_at hW0 hvm.symm (hgood _ (List.mem_cons_of_mem _ List.mem_cons_self)) hini
  have hU' : vx_Zq Bundle.tN "UNASSIGNED_STACK" Bundle.steD A s' s'.heap := by rw [hhp]; exact vx_Zq.moved hW0.alike (hU.kept hS.2.1)
  have hN' : vx_Zq Bundle.tN "SUPPRESSED_SENTINEL" Bundle.listD A s' s'.heap := by rw [hhp]; exact vx_Zq.moved hW0.alike (hN.kept hS.2.1)
  have h : ∀ w ∈ Bundle.ownAtoms own ic cls names, w.before args s' = true := vx_own hat' (vx_isRefq hU'.1) (vx_isRefq hN'.1) hU'.2.word hN'.2.word
  have hown' : s'.vm.findClass own = some m.cls := by rw [hvm]; exact hown
  have hins : (Cond.instantiable cls 6).before args s' = true := h _ (by simp [Bundle.ownAtoms])
  obtain ⟨vm₁, cX, kX, hfX, hkX, -, -, X₁, st1⟩ := Y.newCold hexec (own := own) (C := cls) (index := ik) (n := 6) hown' hk' hins hini'
    (g := F0 m pc ls rest) rfl (by rw [hb]; exact d0) (Nat.le_refl _) (Nat.le_refl _)
  generalize hT1 : (T.setVm vm₁).pushCell { cls := cX, slots := kX.instanceTypes.map defaultValue, vm := .none } = T1 at X₁ st1
  have hcat : (Value.ref T.heap.size).category = 1 := rfl
  have hcellA : T1.heap[T.heap.size]? = some (freshCell cX kX) := by rw [← hT1]; exact State.heap_pushCell_size _ _
  have d3' : decode c.code (pc + 3) = .ok (.dup, 1) := by rw [hb]; exact d3
  have d4' : decode c.code (pc + 4) = .ok (.ldc is, 2) := by rw [hb]; exact d4
  have hstr' : vk_R own is text sa s' := vk_R.warm hW0 hstr
  obtain ⟨U, hsteps, hrun, hend, hW, hsame, ce, hce, hO⟩ := X₁.ctorThrowS hexec htr (own := own) (cls := cls) (names := names) (ic := ic) hown' hcls hnames h (fun x hx => nomatch hx) hfX hkX hcellA (by rw [hhp, hT]; exact Nat.le_refl _) (msg := .ref sa) rfl
    (g := { method := m, pc := pc + 6, locals := ls, stack := .ref sa :: .ref T.heap.size :: .ref T.heap.size :: rest, locked := none }) rfl hsize rfl rfl (rest := rest) rfl
    (by rw [hb]; exact d6) (by rw [hb]; exact d9) hout hRframes (by simp only [List.map_cons, List.sum_cons, hcat]; omega) hlocks
  obtain ⟨f1, f2⟩ := vx_frame hsame
  rw [hhp] at f1 f2
  have hWs : s.WarmedH U.vm := State.WarmedH.trans hW0 hW
  have hcl : s.vm.findClass cls = some ce.cls := by
    have h9 := hO.cls
    rw [hvm] at h9
    exact h9
  have hall : s.sameButNew ({ U with vm := s.vm } : State) locs mc ms := by
    subst hA
    obtain ⟨e1, e2⟩ := hsame
    rw [State.setFrames_setFrames] at e1
    have h2 : (T.setVm s.vm).sameButNew ({ U with vm := s.vm } : State) [] (0 + 1) (0 + 6) := ⟨e1, e2⟩
    have h3 := X.same.trans h2
    rw [List.append_nil] at h3
    exact h3.mono hc hs
  refine ⟨U, ?_, .threw T.heap.size, hrun, hend, Or.inr ⟨T.heap.size, rfl, cls, ce, locs, hx U hWs.alike f1 (fun q hq => f2 q hq (fun z hz => nomatch hz)), hce, hO.vm, hcl, hWs, hall, hf⟩⟩
  refine st1 _ ?_
  show Steps p.tables e below (T1.setTop { method := m, pc := pc + 3, locals := ls, stack := .ref T.heap.size :: rest, locked := none }) _
  jvm_step X₁.here [X₁.here.top, hexec, d3', Value.category]
  exact X₁.ldcString hexec (own := own) (text := text) (index := is) (a := sa) hown' hstr'.1 hstr'.2
    (g := { method := m, pc := pc + 4, locals := ls, stack := .ref T.heap.size :: .ref T.heap.size :: rest, locked := none }) rfl d4' _ hsteps
/-- 'throw new E("text")', the text by a wide index -/
theorem vx_throwSW {cc : ByteArray} {pc : Nat} (hexec : p.tables.exec = Jvm.exec) (hb : c.code = cc) (hl : l.stackTraces = false) {own cls text : String} {names : List String} {ik is ic mc ms sa : Nat} {A : Nat → Prop}
    (hown : s.vm.findClass own = some m.cls) (hcls : Bundle.fit cls = true) (hnames : ∀ n ∈ names, Bundle.fit n = true)
    (hk : (Cond.classLink own ik cls).before args s = true) (hini : (Cond.initialized cls).before args s = true) (hstr : vk_R own is text sa s) (hat : ∀ w ∈ vx_atS own ic cls names, w.before args s = true)
    (hgood : ∀ w ∈ Cond.classLink own ik cls :: Cond.initialized cls :: vx_atS own ic cls names, vx_ot w = true)
    (hU : vx_Zq Bundle.tN "UNASSIGNED_STACK" Bundle.steD A s s.heap) (hN : vx_Zq Bundle.tN "SUPPRESSED_SENTINEL" Bundle.listD A s s.heap) (hS : va_S A s.heap H locs) (hsize : ls.size = c.maxLocals)
    (d0 : decode cc pc = .ok (.new ik, 3)) (d3 : decode cc (pc + 3) = .ok (.dup, 1)) (d4 : decode cc (pc + 4) = .ok (.ldc_w is, 3)) (d7 : decode cc (pc + 7) = .ok (.invokespecial ic, 3)) (d10 : decode cc (pc + 10) = .ok (.athrow, 1))
    (hout : ∀ x ∈ c.exceptionTable.toList, covers x (pc + 10) = false)
    (hRframes : names.length + 3 < R.frames) (hRlocals : (rest.map fun v => v.category).sum + (13 * (names.length + 1) + 43) ≤ R.locals) (hRcells : cells + 1 ≤ R.cells) (hRslots : slots + 6 ≤ R.slots) (hlocks : meth.locks = false)
    (hx : ∀ t : State, s.vm.Alike t.vm → H.size ≤ t.heap.size → (∀ q : Nat, q < H.size → t.heap[q]? = H[q]?) → XC cls s t)
    (hf : ∀ z ∈ locs, free z.base) (hc : cells + 1 ≤ mc) (hs : slots + 6 ≤ ms) :
    W p l e R s m args below meth c H locs cells slots (vx_MQ below Qc XC args s mc ms free) (F0 m pc ls rest) := by
  intro T hT X
  have htr : e.platform.stackTraces = false := (show e.platform.stackTraces = l.stackTraces by rw [X.admits.platform]).trans hl
  have Y := vx_rebase X (R' := { frames := R.frames, locals := R.locals, cells := 1, slots := 6 }) (Nat.le_refl _) (Nat.le_refl _) hRcells hRslots
  obtain ⟨s', hA⟩ : ∃ z, z = (T.setVm s.vm).setFrames (.invoking m args :: below) := ⟨_, rfl⟩
  rw [← hA] at Y
  have hvm : s'.vm = s.vm := by rw [hA]; rfl
  have hhp : s'.heap = H := by rw [hA]; exact hT
  have hW0 : s.WarmedH s'.vm := by rw [hvm]; exact State.WarmedH.refl s
  have hat' : ∀ w ∈ vx_atS own ic cls names, w.before args s' = true := fun w hw => vx_ot_at hW0 hvm.symm (hgood w (List.mem_cons_of_mem _ (List.mem_cons_of_mem _ hw))) (hat w hw)
  have hk' : (Cond.classLink own ik cls).before args s' = true := vx_ot_at hW0 hvm.symm (hgood _ List.mem_cons_self) hk
  have hini' : (Cond.initialized cls).before args s' = true := vx_ot_at hW0 hvm.symm (hgood _ (List.mem_cons_of_mem _ List.mem_cons_self)) hini
  have hU' : vx_Zq Bundle.tN "UNASSIGNED_STACK" Bundle.steD A s' s'.heap := by rw [hhp]; exact vx_Zq.moved hW0.alike (hU.kept hS.2.1)
  have hN' : vx_Zq Bundle.tN "SUPPRESSED_SENTINEL" Bundle.listD A s' s'.heap := by rw [hhp]; exact vx_Zq.moved hW0.alike (hN.kept hS.2.1)
  have h : ∀ w ∈ Bundle.ownAtoms own ic cls names, w.before args s' = true := vx_own hat' (vx_isRefq hU'.1) (vx_isRefq hN'.1) hU'.2.word hN'.2.word
  have hown' : s'.vm.findClass own = some m.cls := by rw [hvm]; exact hown
  have hins : (Cond.instantiable cls 6).before args s' = true := h _ (by simp [Bundle.ownAtoms])
  obtain ⟨vm₁, cX, kX, hfX, hkX, -, -, X₁, st1⟩ := Y.newCold hexec (own := own) (C := cls) (index := ik) (n := 6) hown' hk' hins hini'
    (g := F0 m pc ls rest) rfl (by rw [hb]; exact d0) (Nat.le_refl _) (Nat.le_refl _)
  generalize hT1 : (T.setVm vm₁).pushCell { cls := cX, slots := kX.instanceTypes.map defaultValue, vm := .none } = T1 at X₁ st1
  have hcat : (Value.ref T.heap.size).category = 1 := rfl
  have hcellA : T1.heap[T.heap.size]? = some (freshCell cX kX) := by rw [← hT1]; exact State.heap_pushCell_size _ _
  have d3' : decode c.code (pc + 3) = .ok (.dup, 1) := by rw [hb]; exact d3
  have d4' : decode c.code (pc + 4) = .ok (.ldc_w is, 3) := by rw [hb]; exact d4
  have hstr' : vk_R own is text sa s' := vk_R.warm hW0 hstr
  obtain ⟨U, hsteps, hrun, hend, hW, hsame, ce, hce, hO⟩ := X₁.ctorThrowS hexec htr (own := own) (cls := cls) (names := names) (ic := ic) hown' hcls hnames h (fun x hx => nomatch hx) hfX hkX hcellA (by rw [hhp, hT]; exact Nat.le_refl _) (msg := .ref sa) rfl
    (g := { method := m, pc := pc + 7, locals := ls, stack := .ref sa :: .ref T.heap.size :: .ref T.heap.size :: rest, locked := none }) rfl hsize rfl rfl (rest := rest) rfl
    (by rw [hb]; exact d7) (by rw [hb]; exact d10) hout hRframes (by simp only [List.map_cons, List.sum_cons, hcat]; omega) hlocks
  obtain ⟨f1, f2⟩ := vx_frame hsame
  rw [hhp] at f1 f2
  have hWs : s.WarmedH U.vm := State.WarmedH.trans hW0 hW
  have hcl : s.vm.findClass cls = some ce.cls := by
    have h9 := hO.cls
    rw [hvm] at h9
    exact h9
  have hall : s.sameButNew ({ U with vm := s.vm } : State) locs mc ms := by
    subst hA
    obtain ⟨e1, e2⟩ := hsame
    rw [State.setFrames_setFrames] at e1
    have h2 : (T.setVm s.vm).sameButNew ({ U with vm := s.vm } : State) [] (0 + 1) (0 + 6) := ⟨e1, e2⟩
    have h3 := X.same.trans h2
    rw [List.append_nil] at h3
    exact h3.mono hc hs
  refine ⟨U, ?_, .threw T.heap.size, hrun, hend, Or.inr ⟨T.heap.size, rfl, cls, ce, locs, hx U hWs.alike f1 (fun q hq => f2 q hq (fun z hz => nomatch hz)), hce, hO.vm, hcl, hWs, hall, hf⟩⟩
  refine st1 _ ?_
  show Steps p.tables e below (T1.setTop { method := m, pc := pc + 3, locals := ls, stack := .ref T.heap.size :: rest, locked := none }) _
  jvm_step X₁.here [X₁.here.top, hexec, d3', Value.category]
  exact X₁.ldcStringW hexec (own := own) (text := text) (index := is) (a := sa) hown' hstr'.1 hstr'.2
    (g := { method := m, pc := pc + 4, locals := ls, stack := .ref T.heap.size :: .ref T.heap.size :: rest, locked := none }) rfl d4' _ hsteps
end Ends
section Bodies
variable {l : Launch}
theorem vx_ofW {y : MethodName} {ws ws' : List Cond} {rm : Room} {Pc : Array Value → State → Prop} {Qc : Array Value → State → Outcome → State → Prop} {XC : String → State → State → Prop} {mc ms : Nat} {free : Addr → Prop} {cc : ByteArray} {maxL : Nat} {ret : Option FieldType}
    (hy : plainName y.cls = true) (hw : ws = Cond.code y cc maxL ret :: ws')
    (body : ∀ p e s m args below meth c s₁, BodyLoose p l y (headSpec ws rm) cc maxL ret e s m args below meth c s₁ → c.maxLocals = maxL → (∀ x ∈ c.exceptionTable.toList, False) → Pc args s →
      W p l e (headSpec ws rm).room s m args below meth c s.heap [] 0 0 (vx_MQ below Qc XC args s mc ms free) (entryFrame m args maxL)) : vx_Met l y ws rm Pc Qc XC mc ms free := by
  refine MetFree.of_bodyS (code := cc) (maxLocals := maxL) (ret := ret) hy ?_ ?_
  · intro args s m h hn
    obtain ⟨meth, c, h1, h2, h3, h4, h5, h6, -, -⟩ := Cond.code_spec hn (atoms_spec (ws := ws) h _ (by rw [hw]; exact List.mem_cons_self))
    exact ⟨meth, c, h1, h2, h3, h4, h5, h6⟩
  · intro p e s m args below meth c s₁ B hml hP _
    have hh0 : s₁.heap = s.heap := by rw [B.state]; rfl
    have ht : ∀ x ∈ c.exceptionTable.toList, False := by
      obtain ⟨meth9, c9, h1, h2, -, -, -, -, h7, -⟩ := Cond.code_spec B.named (atoms_spec (ws := ws) B.pre _ (by rw [hw]; exact List.mem_cons_self))
      cases Option.some.inj (h1.symm.trans B.method)
      cases Option.some.inj (h2.symm.trans (Stand.of_body B).code)
      intro x hx
      rw [Array.isEmpty_iff.mp h7] at hx
      cases hx
    obtain ⟨t, a1, o, b1, b2, b3⟩ := body p e s m args below meth c s₁ B hml ht hP s₁ hh0 (Stand.of_body B)
    exact ⟨t, o, a1, b1, b2, b3⟩
/-- the table of a body with handlers -/
theorem vx_table {p : Program} {x y : MethodName} {S : Spec} {cc bytes : ByteArray} {maxL maxL' : Nat} {ret ret' : Option FieldType} {e : Env} {s s₁ : State} {m : MethodId} {args : Array Value} {below : List Frame} {meth : Method} {c : Code} {hh : List (Nat × Nat × Nat × Nat)}
    (B : BodyLoose p l y S cc maxL ret e s m args below meth c s₁) (h : (Cond.codeWith y bytes maxL' ret' hh).before args s = true) : c.exceptionTable.toList = tableOf hh := by
  obtain ⟨m9, meth9, c9, hn9, h1, h2, -, -, h6, -⟩ := Cond.codeWith_spec h
  cases Option.some.inj (hn9.symm.trans B.named)
  cases Option.some.inj (h1.symm.trans B.method)
  cases Option.some.inj (h2.symm.trans (Stand.of_body B).code)
  rw [← h6, table_eq]
end Bodies
end VXA
/-! ===== END ===== -/
/-! ===== BEGIN a static call of a method with an exception table ===== -/
section VXS
variable {p : Program} {l : Launch} {e : Env} {R : Room} {s : State} {m : MethodId} {args : Array Value} {below : List Frame} {meth : Method} {c : Code} {T : State} {H : Heap} {locs : List Loc} {cells slots : Nat}
abbrev vx_CSW (R : Room) (s : State) (args : Array Value) (own : String) (index : Nat) (y : MethodName) (bytes : ByteArray) (maxL : Nat) (ret : Option FieldType) (hh : List (Nat × Nat × Nat × Nat)) (ws : List Cond) (rm : Room) (mc ms n : Nat) : Prop :=
  (rm.cells = mc ∧ rm.slots = ms ∧ rm.frames + 1 ≤ R.frames ∧ 8 + (maxL + 11) + rm.locals ≤ R.locals ∧ (∀ w ∈ ws, ∀ (a' : Array Value) (U : State), s.WarmedH U.vm → w.before a' U = true) ∧ Cond.codeWith y bytes maxL ret hh ∈ ws) ∧
  (Cond.codeWith y bytes maxL ret hh).before args s = true ∧ (Cond.initialized y.cls).before args s = true ∧ (y.cls ≠ "java/lang/invoke/MethodHandle" ∧ y.cls ≠ "java/lang/invoke/VarHandle") ∧
  (∀ sig, parseMethodDescriptor y.desc = some sig → n = sig.parameters.length) ∧ (Cond.methodLink own index y).before args s = true ∧ (Cond.static y).before args s = true
theorem vx_cwSW {own : String} {index maxL mc ms : Nat} {y : MethodName} {bytes : ByteArray} {ret : Option FieldType} {hh : List (Nat × Nat × Nat × Nat)} {Ts ws ws' : List Cond} {rm : Room} (n : Nat) (ht : ∀ w ∈ Ts, w.before args s = true) (hT : GoodIn Ts (va_wsS own index y ws)) (hw : ws = Cond.codeWith y bytes maxL ret hh :: ws') (hrc : rm.cells = mc) (hrs : rm.slots = ms)
    (hd : y.cls ≠ "java/lang/invoke/MethodHandle" ∧ y.cls ≠ "java/lang/invoke/VarHandle" ∧ (parseMethodDescriptor y.desc).map (fun d => d.parameters.length) = some n) (hR : rm.frames + 1 ≤ R.frames ∧ 8 + (maxL + 11) + rm.locals ≤ R.locals) :
    vx_CSW R s args own index y bytes maxL ret hh ws rm mc ms n := by
  have ok : ∀ w ∈ va_wsS own index y ws, w.before args s = true := fun w h => ht w (hT w h).1
  have hG : GoodIn Ts ws := fun w h => hT w (by unfold va_wsS; exact List.mem_append_right _ h)
  have hc : Cond.codeWith y bytes maxL ret hh ∈ ws := by rw [hw]; exact List.mem_cons_self
  refine ⟨⟨hrc, hrs, hR.1, hR.2, pay_in ht hG, hc⟩, ht _ (hG _ hc).1, ok _ (by simp [va_wsS]), ⟨hd.1, hd.2.1⟩, fun sig h => ?_, ok _ (by simp [va_wsS]), ok _ (by simp [va_wsS])⟩
  have h2 := hd.2.2
  rw [h] at h2
  exact (Option.some.inj h2).symm
theorem vx_callSW (X : Stand p l e R s m args below meth c T locs cells slots) (hexec : p.tables.exec = Jvm.exec) {own : String} {index : Nat} {y : MethodName} {bytes : ByteArray} {maxL : Nat} {ret : Option FieldType} {hh : List (Nat × Nat × Nat × Nat)}
    (hown : s.vm.findClass own = some m.cls) (hlink : (Cond.methodLink own index y).before args s = true) (hstat : (Cond.static y).before args s = true) (hinit : (Cond.initialized y.cls).before args s = true)
    (hcode : (Cond.codeWith y bytes maxL ret hh).before args s = true) (hy : y.cls ≠ "java/lang/invoke/MethodHandle" ∧ y.cls ≠ "java/lang/invoke/VarHandle")
    {W9 : Nat} {Pre : Pt → Array Value → Prop} {Post : Pt → Array Value → Option Value → Pt → Prop} (hK : Back l R p e below s args y 3 W9 Pre Post)
    {g : JFrame} (hg : g.method = m) (hsize : g.locals.size = c.maxLocals) {argsL rest : List Value} (hlen : ∀ sig, parseMethodDescriptor y.desc = some sig → argsL.length = sig.parameters.length)
    (hstack : g.stack = argsL.reverse ++ rest) (hW : 2 * g.monitorRoom + (rest.map fun v => v.category).sum ≤ W9) (hdg : decode c.code g.pc = .ok (.invokestatic index, 3))
    (hpre : ∀ vm₁, s.WarmedH vm₁ → Pre ⟨T.setVm vm₁, locs, cells, slots⟩ argsL.toArray) :
    ∃ (v : Option Value) (vm₁ : Vm) (B : Pt), s.WarmedH vm₁ ∧ Stand p l e R s m args below meth c B.U B.locs B.cells B.slots ∧ Post ⟨T.setVm vm₁, locs, cells, slots⟩ argsL.toArray v B ∧
      ∀ target, Steps p.tables e below (B.U.setTop { g with pc := g.pc + 3, stack := v.toList ++ rest }) target → Steps p.tables e below (T.setTop g) target := by
  obtain ⟨mk, methM, cM, hnamed, hmethM, -, -, -, -, -, -, hsigM⟩ := Cond.codeWith_spec hcode
  have hstatic : methM.isStatic = true := Cond.static_spec hnamed hmethM hstat
  obtain ⟨kP, hkP, -⟩ := className_of_methodNamed hnamed
  have hinitP : kP.init = .initialized := Cond.initialized_spec (findClass_of_methodNamed hnamed) hkP hinit
  obtain ⟨vm₁, X₁, hstep₁⟩ := X.invokestatic hexec hown hlink hnamed hmethM hstatic hkP hinitP hy (g := g) hg (argsL := argsL) (rest := rest) (hlen _ hsigM) hstack hdg
  obtain ⟨v, B, X', hpost, hsteps⟩ := hK m meth c ⟨T.setVm vm₁, locs, cells, slots⟩ { g with stack := rest } (.invokestatic index) mk argsL.toArray X₁ hg hsize hdg hW (X₁.named hnamed) (hpre vm₁ X₁.warmed)
  exact ⟨v, vm₁, B, X₁.warmed, X', hpost, fun target h => hstep₁ _ fun acts => by rw [doInvoke_state]; exact hsteps.trans h⟩
theorem vx_runSW {y : MethodName} {bytes cc : ByteArray} {maxL nL mc ms n index : Nat} {ret : Option FieldType} {hh : List (Nat × Nat × Nat × Nat)} {ws : List Cond} {rm : Room} {Pc : Array Value → State → Prop} {Qc : Array Value → State → Outcome → State → Prop} {free : Addr → Prop} {Ts : List Cond} {own : String} {As rest : List Value} {g : JFrame}
    (S : CallFix p m c cc nL s args Ts own) (hM : Met l y ws rm Pc Qc mc ms free) (cw : vx_CSW R s args own index y bytes maxL ret hh ws rm mc ms n) (hp : PreS s H Pc As)
    (hg : g.method = m) (hn : As.length = n) (hsize : g.locals.size = nL) (hstack : g.stack = As.reverse ++ rest) (hW : 2 * g.monitorRoom + (rest.map fun v => v.category).sum ≤ 8) (hdg : decode cc g.pc = .ok (.invokestatic index, 3)) (hf : cells + mc ≤ R.cells ∧ slots + ms ≤ R.slots) :
    va_Run p l e R s m args below meth c H locs cells slots mc ms g rest (Qc As.toArray) (free) := by
  obtain ⟨⟨hrc, hrs, hfr, hlo, hws, hcw⟩, hcode, hini, hy, hlen, hl, hstt⟩ := cw
  have hK : Back l R p e below s args y 3 8 (PreOf R mc ms Pc) (PostOf Qc mc ms free) := va_backW (hh := hh) (bytes := bytes) (maxL := maxL) (ret := ret) hM hp.1 hrc hrs hfr hlo hws hcw (fun a' U hW => word_at hW (Or.inl (by first | rfl | simp [Cond.onTables, Cond.keeps, Cond.steady])) hini)
  obtain ⟨hx, hb, hml, ho, -⟩ := S
  intro T hT X
  obtain ⟨v, vm₁, ⟨U', l2, c2, s2⟩, hW₁, X', ⟨g', mk, t, L, e1, e2, hq, h1, hL, h2, h3⟩, st⟩ := vx_callSW X hx (hh := hh) (bytes := bytes) (maxL := maxL) (ret := ret) ho hl hstt hini hcode hy hK hg (hsize.trans hml.symm) (argsL := As) (rest := rest) (fun sig h => hn.trans (hlen sig h)) hstack hW (by rw [hb]; exact hdg)
    (fun vm₁ hW₁ => ⟨hf.1, hf.2, hp.2 (T.setVm vm₁) hT hW₁⟩)
  dsimp only [Pt.U, Pt.locs, Pt.cells, Pt.slots] at X' e1 e2 h1 h2 h3 st
  subst h1; subst h2; subst h3
  exact ⟨v, (T.setVm vm₁).calling g' mk As.toArray, t, U', L, hT, X', hL, e1, e2, hq, st⟩
/-- not caught here, past rows that name other classes: it goes on to the caller -/
theorem vx_outP {p : Program} {l : Launch} {e : Env} {R : Room} {s : State} {m : MethodId} {args : Array Value} {below : List Frame} {meth : Method} {c : Code} {H : Heap} {locs : List Loc} {cells slots : Nat} {free : Addr → Prop} {ls : Array Slot} {rest : List Value} {Qc : Array Value → State → Outcome → State → Prop} {XC : String → State → State → Prop}
    {pc : Nat} {own E : String} {ce : Cell} {q : Addr} {mc ms : Nat} (hown : s.vm.findClass own = some m.cls) (hlocks : meth.locks = false)
    (hpass : ∀ z ∈ c.exceptionTable.toList, covers z pc = false ∨ (z.catchType ≠ 0 ∧ ∃ nm : String, (Cond.classLink own z.catchType nm).before args s = true ∧ va_Nc E nm s)) (hcell : H[q]? = some ce) (hv : ce.vm = .none) (hcl : s.vm.findClass E = some ce.cls)
    (hx : ∀ t : State, t.heap = H → s.vm.Alike t.vm → XC E s t) (hf : ∀ z ∈ locs, free z.base) (hc : cells ≤ mc) (hs : slots ≤ ms) :
    vx_W p l e R s m args below meth c H locs cells slots (vx_MQ below Qc XC args s mc ms free) (F0 m pc ls rest) q := by
  intro T hT X
  have hpl : e.platform.magicAccessors = ({} : Platform).magicAccessors := by rw [X.admits.platform]
  obtain ⟨vm', hW', X', st⟩ := X.outThrough hlocks q (g := F0 m pc ls rest) rfl rfl rfl (cell := ce) (by rw [hT]; exact hcell) (by rw [hv]; rfl)
    (by obtain ⟨k9, h9, -⟩ := Vm.findClass_spec hcl; exact ⟨k9, h9⟩) (fun z hz => by
      rcases hpass z hz with h | ⟨hz0, nm, hl1, hn1⟩
      · exact Or.inl h
      · obtain ⟨c6, hc6, hcl6⟩ := Cond.classLink_spec hown hl1 e.platform hpl
        obtain ⟨a8, b8, h1, h2, h3⟩ := hn1
        cases Option.some.inj (h1.symm.trans hcl)
        cases Option.some.inj (h2.symm.trans hc6)
        exact Or.inr ⟨hz0, _, hcl6, h3⟩)
  obtain ⟨g₀, hfr⟩ := X'.frames_eq
  have hcell9 : ((T.setVm vm').setFrames (.throwing q :: below)).heap[q]? = some ce := by
    show T.heap[q]? = some ce
    rw [hT]; exact hcell
  have hend : Ended ((T.setVm vm').setFrames (.throwing q :: below)) below (.threw q) := State.frames_setFrames _ (State.cur_lt_of_frames hfr)
  refine ⟨(T.setVm vm').setFrames (.throwing q :: below), ?_, .threw q, X'.here.running, hend, Or.inr ⟨q, rfl, E, ce, locs, hx _ hT (X'.ends _).1.alike, hcell9, hv, hcl, (X'.ends _).1, (X'.ends _).2.mono hc hs, hf⟩⟩
  rw [X.pushThrowing_eq]
  exact st
/-- a thing of a world lies in the heap -/
theorem vx_lt {D : va_G} {cl : List vw_C} {ws : va_W} {H1 : Heap} (h : va_P D cl ws H1) {k : Nat} {q : Nat × va_E} (hk : ws[k]? = some q) : q.1 < H1.size := (h k q hk).lt
end VXS
/-! ===== END ===== -/
/-! ===== BEGIN methods with a table of their own: called by a name, returning or throwing ===== -/
section VXH
/-! vx_backW, vx_callVX, vx_callSX, vx_callVW, vx_runVW, vx_runVX, vx_runSX, vx_ofWH follow the same proofs as their sisters above (Free/Laws.lean, Shelf42/LK1.lean); vx_outP calls Shelf42/NT130.lean (outThrough). -/
section
variable {l : Launch} {R : Room} {p : Program} {e : Env} {below : List Frame} {s : State} {sargs : Array Value} {y : MethodName} {len W9 : Nat}
theorem vx_backW {ws : List Cond} {rm : Room} {Pc : Array Value → State → Prop} {Qc : Array Value → State → Outcome → State → Prop} {XC : String → State → State → Prop} {mc ms : Nat} {free : Addr → Prop} {bytes : ByteArray} {maxL : Nat} {ret : Option FieldType} {hh : List (Nat × Nat × Nat × Nat)}
    (hM : vx_Met l y ws rm Pc Qc XC mc ms free) (hblind : FrameBlind Pc) (hrc : rm.cells = mc) (hrs : rm.slots = ms)
    (hframes : rm.frames + 1 ≤ R.frames) (hlocals : W9 + (maxL + 11) + rm.locals ≤ R.locals)
    (hws : ∀ w ∈ ws, ∀ a' U, s.WarmedH U.vm → w.before a' U = true) (hcode : Cond.codeWith y bytes maxL ret hh ∈ ws) (hinit : ∀ a' U, s.WarmedH U.vm → (Cond.initialized y.cls).before a' U = true) :
    vx_Back l R p e below s sargs y len W9 (PreOf R mc ms Pc) (PostOf Qc mc ms free) (vx_Post XC mc ms free) := by
  intro m meth c A g ig mk a X hg hsize hdg hW hn hp
  have h1 : (headSpec ws rm).pre.before a A.U = true := atoms_intro fun w hw => hws w hw _ _ X.warmed
  have h2 : (Cond.codeWith y bytes maxL ret hh).before a A.U = true := hws _ hcode _ _ X.warmed
  have h3 : (Cond.initialized y.cls).before a A.U = true := hinit _ _ X.warmed
  have h4 : A.cells + (headSpec ws rm).room.cells ≤ R.cells := by rw [show (headSpec ws rm).room.cells = mc from hrc]; exact hp.1
  have h5 : A.slots + (headSpec ws rm).room.slots ≤ R.slots := by rw [show (headSpec ws rm).room.slots = ms from hrs]; exact hp.2.1
  have hPc : Pc a (A.U.calling g mk a) := hblind _ _ _ _ hp.2.2
  obtain ⟨U, Ls, c0, s0⟩ := A
  dsimp only [Pt.U, Pt.locs, Pt.cells, Pt.slots] at h1 h2 h3 h4 h5 X hn hPc ⊢
  obtain ⟨m9, methY, cY, hn9, hmY, hcY, -, hlY, -⟩ := Cond.codeWith_spec h2
  cases Option.some.inj (hn9.symm.trans hn)
  obtain ⟨kY, hkY, -⟩ := className_of_methodNamed hn
  have hinitY : kY.init = .initialized := Cond.initialized_spec (findClass_of_methodNamed hn) hkY h3
  have h : At U g.method c below := by rw [hg]; exact X.here
  have hlocals9 : W9 + (maxL + 11) + (headSpec ws rm).room.locals ≤ R.locals := hlocals
  have happ : (headSpec ws rm).appliesLoose y e.platform (U.calling g mk a) = true :=
    Spec.appliesLoose_calling (g := g) h hdg hn hkY hinitY
      (X.room_calling (g := g) (R' := (headSpec ws rm).room) hsize hmY hcY hframes (by rw [hlY]; omega) h4 h5) h1
  obtain ⟨mid, hmid⟩ := h.above
  have hfr : (U.setTop g).frames = (.java g :: mid) ++ below := by rw [State.frames_setTop' g h.top, hmid]; rfl
  obtain ⟨o, s₂, hsteps, -, hend, hq⟩ := Steps.callFree hM p X.admits X.cas X.clock (acts := []) hfr happ hPc trivial
  have hq' : vx_Q Qc XC mc ms free a (U.calling g mk a) o s₂ := hq
  rw [State.frames_setTop' g h.top] at hend
  obtain ⟨g₀, hg0⟩ := Option.isSome_iff_exists.mp h.top
  obtain ⟨r, hr⟩ := State.topJava?_eq_some.mp hg0
  have hr' : (({ U with heap := s₂.heap, slotsUsed := s₂.slotsUsed } : State).setVm s₂.vm).frames = .java g₀ :: r := hr
  rcases hq' with ⟨hqc, L, hfe, hL⟩ | ⟨q, rfl, E, ce, L, hx, hce, hcv, hcl, hW₂, hsm, hL⟩
  · obtain ⟨⟨v, rfl⟩, hW₂, e2, q2, q3, q4, q5, q6⟩ := id hfe
    have e3 : s₂ = ({ (U.calling g mk a).setFrames s₂.frames with heap := s₂.heap, slotsUsed := s₂.slotsUsed } : State).setVm s₂.vm := by
      have : s₂ = ({ s₂ with vm := (U.calling g mk a).vm } : State).setVm s₂.vm := rfl
      rw [e2] at this
      exact this
    obtain ⟨c₂, i₂, len₂, hc₂, hd₂, hf₂⟩ := hend
    have hW' : U.WarmedH s₂.vm := hW₂
    have hcc : c₂ = c := by
      have h1 : s₂.code? g.method = U.code? g.method := by
        rw [State.code?_eq, State.code?_eq, hW'.alike.method?]
      exact Option.some.inj (hc₂.symm.trans (h1.trans h.code))
    subst hcc
    have hlen : len₂ = len := by rw [hdg] at hd₂; cases hd₂; rfl
    subst hlen
    have hs₂ : s₂ = (({ U with heap := s₂.heap, slotsUsed := s₂.slotsUsed } : State).setVm s₂.vm).setTop { g with pc := g.pc + len₂, stack := v.toList ++ g.stack } := by
      refine e3.trans ?_
      rw [hf₂, State.calling_eq h.top, State.setFrames_setFrames, State.setTop_of_frames _ hr', hr]
      rfl
    have hsame : U.sameButNew ({ U with heap := s₂.heap, slotsUsed := s₂.slotsUsed } : State) L mc ms := by
      refine ⟨?_, q2, q3, q4, q5, q6⟩
      obtain ⟨t, ht, -⟩ := State.frames_cons hr
      show ({ U with heap := s₂.heap, slotsUsed := s₂.slotsUsed } : State) = { U.setFrames U.frames with heap := s₂.heap, slotsUsed := s₂.slotsUsed }
      rw [State.setFrames_self ht]
    subst hg
    refine Or.inl ⟨v, ⟨(({ U with heap := s₂.heap, slotsUsed := s₂.slotsUsed } : State).setVm s₂.vm), Ls ++ L, c0 + mc, s0 + ms⟩,
      ⟨X.admits, X.cas, X.clock, X.frames, X.room, X.hears, X.method, X.code, (X.here.setHeapUsed s₂.heap s₂.slotsUsed).setVm hW'.alike, X.tail, State.WarmedH.trans X.warmed hW', X.limits, X.bytes, X.same.trans (hsame.setVm s.vm)⟩,
      ⟨g, mk, s₂, L, rfl, rfl, hqc, rfl, hL, rfl, rfl⟩, ?_⟩
    show Steps p.tables e below _ ((({ U with heap := s₂.heap, slotsUsed := s₂.slotsUsed } : State).setVm s₂.vm).setTop { g with pc := g.pc + len₂, stack := v.toList ++ g.stack })
    rw [← hs₂]
    exact hsteps
  · obtain ⟨e2, q2, q3, q4, q5, q6⟩ := id hsm
    have e3 : s₂ = ({ (U.calling g mk a).setFrames s₂.frames with heap := s₂.heap, slotsUsed := s₂.slotsUsed } : State).setVm s₂.vm := by
      have : s₂ = ({ s₂ with vm := (U.calling g mk a).vm } : State).setVm s₂.vm := rfl
      rw [e2] at this
      exact this
    have hf₂ : s₂.frames = .throwing q :: .java g :: U.frames.tail := hend
    have hW' : U.WarmedH s₂.vm := hW₂
    have hs₂ : s₂ = ((({ U with heap := s₂.heap, slotsUsed := s₂.slotsUsed } : State).setVm s₂.vm).setTop g).pushFrame (.throwing q) := by
      refine e3.trans ?_
      rw [hf₂, State.calling_eq h.top, State.setFrames_setFrames, State.pushFrame, State.frames_setTop _ hr', State.setTop_of_frames _ hr', State.setFrames_setFrames, hr]
      rfl
    have hsame : U.sameButNew ({ U with heap := s₂.heap, slotsUsed := s₂.slotsUsed } : State) L mc ms := by
      refine ⟨?_, q2, q3, q4, q5, q6⟩
      obtain ⟨t, ht, -⟩ := State.frames_cons hr
      show ({ U with heap := s₂.heap, slotsUsed := s₂.slotsUsed } : State) = { U.setFrames U.frames with heap := s₂.heap, slotsUsed := s₂.slotsUsed }
      rw [State.setFrames_self ht]
    subst hg
    refine Or.inr ⟨q, ⟨(({ U with heap := s₂.heap, slotsUsed := s₂.slotsUsed } : State).setVm s₂.vm), Ls ++ L, c0 + mc, s0 + ms⟩,
      ⟨X.admits, X.cas, X.clock, X.frames, X.room, X.hears, X.method, X.code, (X.here.setHeapUsed s₂.heap s₂.slotsUsed).setVm hW'.alike, X.tail, State.WarmedH.trans X.warmed hW', X.limits, X.bytes, X.same.trans (hsame.setVm s.vm)⟩,
      ⟨g, mk, s₂, L, E, ce, rfl, rfl, hx, hce, hcv, hcl, rfl, hL, rfl, rfl⟩, ?_⟩
    show Steps p.tables e below _ (((({ U with heap := s₂.heap, slotsUsed := s₂.slotsUsed } : State).setVm s₂.vm).setTop g).pushFrame (.throwing q))
    rw [← hs₂]
    exact hsteps
end
variable {p : Program} {l : Launch} {e : Env} {R : Room} {s : State} {m : MethodId} {args : Array Value} {below : List Frame} {meth : Method} {c : Code} {T : State} {H : Heap} {locs : List Loc} {cells slots : Nat}
theorem vx_callVX (X : Stand p l e R s m args below meth c T locs cells slots) (hexec : p.tables.exec = Jvm.exec) {own C : String} {index : Nat} {y : MethodName} {bytes : ByteArray} {maxL : Nat} {ret : Option FieldType} {hh : List (Nat × Nat × Nat × Nat)}
    (hown : s.vm.findClass own = some m.cls) (hlink : (Cond.methodLink own index y).before args s = true) (hinst : (Cond.instanceMethod y).before args s = true) (hsel : (Cond.selects C y y).before args s = true)
    (hcode : (Cond.codeWith y bytes maxL ret hh).before args s = true) (hy : y.cls ≠ "java/lang/invoke/MethodHandle" ∧ y.cls ≠ "java/lang/invoke/VarHandle")
    {W9 : Nat} {Pre : Pt → Array Value → Prop} {Post : Pt → Array Value → Option Value → Pt → Prop} {PostX : Pt → Array Value → Addr → Pt → Prop} (hK : vx_Back l R p e below s args y 3 W9 Pre Post PostX)
    {b : Addr} {cellB : Cell} (hcell : T.heap[b]? = some cellB) (hobj : cellB.vm.isStatics = false) (hcls : s.vm.findClass C = some cellB.cls)
    {g : JFrame} (hg : g.method = m) (hsize : g.locals.size = c.maxLocals) {argsL rest : List Value} (hlen : ∀ sig, parseMethodDescriptor y.desc = some sig → argsL.length = sig.parameters.length)
    (hstack : g.stack = argsL.reverse ++ .ref b :: rest) (hW : 2 * g.monitorRoom + (rest.map fun v => v.category).sum ≤ W9) (hdg : decode c.code g.pc = .ok (.invokevirtual index, 3))
    (hpre : ∀ vm₁, s.WarmedH vm₁ → Pre ⟨T.setVm vm₁, locs, cells, slots⟩ (Value.ref b :: argsL).toArray) :
    (∃ (v : Option Value) (vm₁ : Vm) (B : Pt), s.WarmedH vm₁ ∧ Stand p l e R s m args below meth c B.U B.locs B.cells B.slots ∧ Post ⟨T.setVm vm₁, locs, cells, slots⟩ (Value.ref b :: argsL).toArray v B ∧
      ∀ target, Steps p.tables e below (B.U.setTop { g with pc := g.pc + 3, stack := v.toList ++ rest }) target → Steps p.tables e below (T.setTop g) target) ∨
    (∃ (q : Addr) (vm₁ : Vm) (B : Pt), s.WarmedH vm₁ ∧ Stand p l e R s m args below meth c B.U B.locs B.cells B.slots ∧ PostX ⟨T.setVm vm₁, locs, cells, slots⟩ (Value.ref b :: argsL).toArray q B ∧
      Steps p.tables e below (T.setTop g) ((B.U.setTop { g with stack := rest }).pushFrame (.throwing q))) := by
  obtain ⟨mk, methM, hnamed, hmethM, hstM, habM⟩ := Cond.instanceMethod_spec hinst
  obtain ⟨m8, methM', cM, hn8, hmethM', -, -, -, -, -, -, hsigM⟩ := Cond.codeWith_spec hcode
  cases Option.some.inj (hn8.symm.trans hnamed)
  cases hmethM.symm.trans hmethM'
  obtain ⟨c2, r2, m2, q1, q2, q3, q4, kP, hkP, hkPi⟩ := Cond.selects_spec hsel
  cases hcls.symm.trans q1
  cases (State.methodFound?_of_named hnamed hy).symm.trans q2
  cases hnamed.symm.trans q3
  have hselP : selectMethod e.platform s.vm cellB.cls mk = .method mk := by rw [Launch.admits_selectMethod X.admits]; exact q4
  obtain ⟨vm₁, X₁, hstep₁⟩ := X.invokevirtual hexec hown hlink hnamed hmethM hstM hkP hkPi hy (a := b) (cell := cellB) hcell
    (fun z h => by rw [h] at hobj; cases hobj) hselP hmethM habM hkP hkPi (g := g) hg (argsL := argsL) (rest := rest) (hlen _ hsigM) hstack hdg
  rcases hK m meth c ⟨T.setVm vm₁, locs, cells, slots⟩ { g with stack := rest } (.invokevirtual index) mk (Value.ref b :: argsL).toArray X₁ hg hsize hdg hW (X₁.named hnamed) (hpre vm₁ X₁.warmed) with ⟨v, B, X', hpost, hsteps⟩ | ⟨q, B, X', hpost, hsteps⟩
  · exact Or.inl ⟨v, vm₁, B, X₁.warmed, X', hpost, fun target h => hstep₁ _ fun acts => by rw [doInvoke_state]; exact hsteps.trans h⟩
  · exact Or.inr ⟨q, vm₁, B, X₁.warmed, X', hpost, hstep₁ _ fun acts => by rw [doInvoke_state]; exact hsteps⟩
theorem vx_callSX (X : Stand p l e R s m args below meth c T locs cells slots) (hexec : p.tables.exec = Jvm.exec) {own : String} {index : Nat} {y : MethodName} {bytes : ByteArray} {maxL : Nat} {ret : Option FieldType} {hh : List (Nat × Nat × Nat × Nat)}
    (hown : s.vm.findClass own = some m.cls) (hlink : (Cond.methodLink own index y).before args s = true) (hstat : (Cond.static y).before args s = true) (hinit : (Cond.initialized y.cls).before args s = true)
    (hcode : (Cond.codeWith y bytes maxL ret hh).before args s = true) (hy : y.cls ≠ "java/lang/invoke/MethodHandle" ∧ y.cls ≠ "java/lang/invoke/VarHandle")
    {W9 : Nat} {Pre : Pt → Array Value → Prop} {Post : Pt → Array Value → Option Value → Pt → Prop} {PostX : Pt → Array Value → Addr → Pt → Prop} (hK : vx_Back l R p e below s args y 3 W9 Pre Post PostX)
    {g : JFrame} (hg : g.method = m) (hsize : g.locals.size = c.maxLocals) {argsL rest : List Value} (hlen : ∀ sig, parseMethodDescriptor y.desc = some sig → argsL.length = sig.parameters.length)
    (hstack : g.stack = argsL.reverse ++ rest) (hW : 2 * g.monitorRoom + (rest.map fun v => v.category).sum ≤ W9) (hdg : decode c.code g.pc = .ok (.invokestatic index, 3))
    (hpre : ∀ vm₁, s.WarmedH vm₁ → Pre ⟨T.setVm vm₁, locs, cells, slots⟩ argsL.toArray) :
    (∃ (v : Option Value) (vm₁ : Vm) (B : Pt), s.WarmedH vm₁ ∧ Stand p l e R s m args below meth c B.U B.locs B.cells B.slots ∧ Post ⟨T.setVm vm₁, locs, cells, slots⟩ argsL.toArray v B ∧
      ∀ target, Steps p.tables e below (B.U.setTop { g with pc := g.pc + 3, stack := v.toList ++ rest }) target → Steps p.tables e below (T.setTop g) target) ∨
    (∃ (q : Addr) (vm₁ : Vm) (B : Pt), s.WarmedH vm₁ ∧ Stand p l e R s m args below meth c B.U B.locs B.cells B.slots ∧ PostX ⟨T.setVm vm₁, locs, cells, slots⟩ argsL.toArray q B ∧
      Steps p.tables e below (T.setTop g) ((B.U.setTop { g with stack := rest }).pushFrame (.throwing q))) := by
  obtain ⟨mk, methM, cM, hnamed, hmethM, -, -, -, -, -, -, hsigM⟩ := Cond.codeWith_spec hcode
  have hstatic : methM.isStatic = true := Cond.static_spec hnamed hmethM hstat
  obtain ⟨kP, hkP, -⟩ := className_of_methodNamed hnamed
  have hinitP : kP.init = .initialized := Cond.initialized_spec (findClass_of_methodNamed hnamed) hkP hinit
  obtain ⟨vm₁, X₁, hstep₁⟩ := X.invokestatic hexec hown hlink hnamed hmethM hstatic hkP hinitP hy (g := g) hg (argsL := argsL) (rest := rest) (hlen _ hsigM) hstack hdg
  rcases hK m meth c ⟨T.setVm vm₁, locs, cells, slots⟩ { g with stack := rest } (.invokestatic index) mk argsL.toArray X₁ hg hsize hdg hW (X₁.named hnamed) (hpre vm₁ X₁.warmed) with ⟨v, B, X', hpost, hsteps⟩ | ⟨q, B, X', hpost, hsteps⟩
  · exact Or.inl ⟨v, vm₁, B, X₁.warmed, X', hpost, fun target h => hstep₁ _ fun acts => by rw [doInvoke_state]; exact hsteps.trans h⟩
  · exact Or.inr ⟨q, vm₁, B, X₁.warmed, X', hpost, hstep₁ _ fun acts => by rw [doInvoke_state]; exact hsteps⟩
theorem vx_callVW (X : Stand p l e R s m args below meth c T locs cells slots) (hexec : p.tables.exec = Jvm.exec) {own C : String} {index : Nat} {y : MethodName} {bytes : ByteArray} {maxL : Nat} {ret : Option FieldType} {hh : List (Nat × Nat × Nat × Nat)}
    (hown : s.vm.findClass own = some m.cls) (hlink : (Cond.methodLink own index y).before args s = true) (hinst : (Cond.instanceMethod y).before args s = true) (hsel : (Cond.selects C y y).before args s = true)
    (hcode : (Cond.codeWith y bytes maxL ret hh).before args s = true) (hy : y.cls ≠ "java/lang/invoke/MethodHandle" ∧ y.cls ≠ "java/lang/invoke/VarHandle")
    {W9 : Nat} {Pre : Pt → Array Value → Prop} {Post : Pt → Array Value → Option Value → Pt → Prop} (hK : Back l R p e below s args y 3 W9 Pre Post)
    {b : Addr} {cellB : Cell} (hcell : T.heap[b]? = some cellB) (hobj : cellB.vm.isStatics = false) (hcls : s.vm.findClass C = some cellB.cls)
    {g : JFrame} (hg : g.method = m) (hsize : g.locals.size = c.maxLocals) {argsL rest : List Value} (hlen : ∀ sig, parseMethodDescriptor y.desc = some sig → argsL.length = sig.parameters.length)
    (hstack : g.stack = argsL.reverse ++ .ref b :: rest) (hW : 2 * g.monitorRoom + (rest.map fun v => v.category).sum ≤ W9) (hdg : decode c.code g.pc = .ok (.invokevirtual index, 3))
    (hpre : ∀ vm₁, s.WarmedH vm₁ → Pre ⟨T.setVm vm₁, locs, cells, slots⟩ (Value.ref b :: argsL).toArray) :
    ∃ (v : Option Value) (vm₁ : Vm) (B : Pt), s.WarmedH vm₁ ∧ Stand p l e R s m args below meth c B.U B.locs B.cells B.slots ∧ Post ⟨T.setVm vm₁, locs, cells, slots⟩ (Value.ref b :: argsL).toArray v B ∧
      ∀ target, Steps p.tables e below (B.U.setTop { g with pc := g.pc + 3, stack := v.toList ++ rest }) target → Steps p.tables e below (T.setTop g) target := by
  obtain ⟨mk, methM, hnamed, hmethM, hstM, habM⟩ := Cond.instanceMethod_spec hinst
  obtain ⟨m8, methM', cM, hn8, hmethM', -, -, -, -, -, -, hsigM⟩ := Cond.codeWith_spec hcode
  cases Option.some.inj (hn8.symm.trans hnamed)
  cases hmethM.symm.trans hmethM'
  obtain ⟨c2, r2, m2, q1, q2, q3, q4, kP, hkP, hkPi⟩ := Cond.selects_spec hsel
  cases hcls.symm.trans q1
  cases (State.methodFound?_of_named hnamed hy).symm.trans q2
  cases hnamed.symm.trans q3
  have hselP : selectMethod e.platform s.vm cellB.cls mk = .method mk := by rw [Launch.admits_selectMethod X.admits]; exact q4
  obtain ⟨vm₁, X₁, hstep₁⟩ := X.invokevirtual hexec hown hlink hnamed hmethM hstM hkP hkPi hy (a := b) (cell := cellB) hcell
    (fun z h => by rw [h] at hobj; cases hobj) hselP hmethM habM hkP hkPi (g := g) hg (argsL := argsL) (rest := rest) (hlen _ hsigM) hstack hdg
  obtain ⟨v, B, X', hpost, hsteps⟩ := hK m meth c ⟨T.setVm vm₁, locs, cells, slots⟩ { g with stack := rest } (.invokevirtual index) mk (Value.ref b :: argsL).toArray X₁ hg hsize hdg hW (X₁.named hnamed) (hpre vm₁ X₁.warmed)
  exact ⟨v, vm₁, B, X₁.warmed, X', hpost, fun target h => hstep₁ _ fun acts => by rw [doInvoke_state]; exact hsteps.trans h⟩
abbrev vx_CVW (R : Room) (s : State) (args : Array Value) (own C : String) (index : Nat) (y : MethodName) (bytes : ByteArray) (maxL : Nat) (ret : Option FieldType) (hh : List (Nat × Nat × Nat × Nat)) (ws : List Cond) (rm : Room) (mc ms n : Nat) : Prop :=
  (rm.cells = mc ∧ rm.slots = ms ∧ rm.frames + 1 ≤ R.frames ∧ 8 + (maxL + 11) + rm.locals ≤ R.locals ∧ (∀ w ∈ ws, ∀ (a' : Array Value) (U : State), s.WarmedH U.vm → w.before a' U = true) ∧ Cond.codeWith y bytes maxL ret hh ∈ ws) ∧
  (Cond.codeWith y bytes maxL ret hh).before args s = true ∧ (Cond.initialized y.cls).before args s = true ∧ (y.cls ≠ "java/lang/invoke/MethodHandle" ∧ y.cls ≠ "java/lang/invoke/VarHandle") ∧
  (∀ sig, parseMethodDescriptor y.desc = some sig → n = sig.parameters.length) ∧ (Cond.methodLink own index y).before args s = true ∧ (Cond.instanceMethod y).before args s = true ∧ (Cond.selects C y y).before args s = true
theorem vx_cwVW {own C : String} {index maxL mc ms : Nat} {y : MethodName} {bytes : ByteArray} {ret : Option FieldType} {hh : List (Nat × Nat × Nat × Nat)} {Ts ws ws' : List Cond} {rm : Room} (n : Nat) (ht : ∀ w ∈ Ts, w.before args s = true) (hT : GoodIn Ts (wsV own index C y ws)) (hw : ws = Cond.codeWith y bytes maxL ret hh :: ws') (hrc : rm.cells = mc) (hrs : rm.slots = ms)
    (hd : y.cls = C ∧ y.cls ≠ "java/lang/invoke/MethodHandle" ∧ y.cls ≠ "java/lang/invoke/VarHandle" ∧ (parseMethodDescriptor y.desc).map (fun d => d.parameters.length) = some n) (hR : rm.frames + 1 ≤ R.frames ∧ 8 + (maxL + 11) + rm.locals ≤ R.locals) :
    vx_CVW R s args own C index y bytes maxL ret hh ws rm mc ms n := by
  obtain ⟨hC, hd⟩ := hd
  subst hC
  have ok : ∀ w ∈ wsV own index y.cls y ws, w.before args s = true := fun w h => ht w (hT w h).1
  have hG : GoodIn Ts ws := fun w h => hT w (by unfold wsV; exact List.mem_append_right _ h)
  have hc : Cond.codeWith y bytes maxL ret hh ∈ ws := by rw [hw]; exact List.mem_cons_self
  refine ⟨⟨hrc, hrs, hR.1, hR.2, pay_in ht hG, hc⟩, ht _ (hG _ hc).1, ok _ (by simp [wsV]), ⟨hd.1, hd.2.1⟩, fun sig h => ?_, ok _ (by simp [wsV]), ok _ (by simp [wsV]), ok _ (by simp [wsV])⟩
  have h2 := hd.2.2
  rw [h] at h2
  exact (Option.some.inj h2).symm
theorem vx_runVW {y : MethodName} {bytes cc : ByteArray} {maxL nL mc ms n index : Nat} {ret : Option FieldType} {hh : List (Nat × Nat × Nat × Nat)} {ws : List Cond} {rm : Room} {Pc : Array Value → State → Prop} {Qc : Array Value → State → Outcome → State → Prop} {free : Addr → Prop} {Ts : List Cond} {own C : String} {b : Addr} {As rest : List Value} {g : JFrame}
    (S : CallFix p m c cc nL s args Ts own) (hM : Met l y ws rm Pc Qc mc ms free) (cw : vx_CVW R s args own C index y bytes maxL ret hh ws rm mc ms n) (hp : PreV s H C b Pc As)
    (hg : g.method = m) (hn : As.length = n) (hsize : g.locals.size = nL) (hstack : g.stack = As.reverse ++ .ref b :: rest) (hW : 2 * g.monitorRoom + (rest.map fun v => v.category).sum ≤ 8) (hdg : decode cc g.pc = .ok (.invokevirtual index, 3)) (hf : cells + mc ≤ R.cells ∧ slots + ms ≤ R.slots) :
    va_Run p l e R s m args below meth c H locs cells slots mc ms g rest (Qc (Value.ref b :: As).toArray) free := by
  obtain ⟨⟨hrc, hrs, hfr, hlo, hws, hcw⟩, hcode, hini, hy, hlen, hl, hin, hse⟩ := cw
  have hK : Back l R p e below s args y 3 8 (PreOf R mc ms Pc) (PostOf Qc mc ms free) := va_backW (hh := hh) (bytes := bytes) (maxL := maxL) (ret := ret) hM hp.1 hrc hrs hfr hlo hws hcw (fun a' U hW => word_at hW (Or.inl (by first | rfl | simp [Cond.onTables, Cond.keeps, Cond.steady])) hini)
  obtain ⟨hx, hb, hml, ho, -⟩ := S
  obtain ⟨-, ⟨cellB, hcB, hoB, hclB⟩, hPc⟩ := hp
  intro T hT X
  obtain ⟨v, vm₁, ⟨U', l2, c2, s2⟩, hW₁, X', ⟨g', mk, t, L, e1, e2, hq, h1, hL, h2, h3⟩, st⟩ := vx_callVW X hx (C := C) (hh := hh) (bytes := bytes) (maxL := maxL) (ret := ret) ho hl hin hse hcode hy hK (by rw [hT]; exact hcB) hoB hclB hg (hsize.trans hml.symm) (argsL := As) (rest := rest) (fun sig h => hn.trans (hlen sig h)) hstack hW (by rw [hb]; exact hdg)
    (fun vm₁ hW₁ => ⟨hf.1, hf.2, hPc (T.setVm vm₁) hT hW₁⟩)
  dsimp only [Pt.U, Pt.locs, Pt.cells, Pt.slots] at X' e1 e2 h1 h2 h3 st
  subst h1; subst h2; subst h3
  exact ⟨v, (T.setVm vm₁).calling g' mk (Value.ref b :: As).toArray, t, U', L, hT, X', hL, e1, e2, hq, st⟩
section
variable {y : MethodName} {bytes cc : ByteArray} {maxL nL mc ms n index : Nat} {ret : Option FieldType} {ws : List Cond} {rm : Room} {Pc : Array Value → State → Prop} {Qc : Array Value → State → Outcome → State → Prop} {XC : String → State → State → Prop} {free : Addr → Prop} {Ts : List Cond} {own C : String} {b : Addr} {As rest : List Value} {g : JFrame}
theorem vx_runVX {hh : List (Nat × Nat × Nat × Nat)} (S : CallFix p m c cc nL s args Ts own) (hM : vx_Met l y ws rm Pc Qc XC mc ms free) (cw : vx_CVW R s args own C index y bytes maxL ret hh ws rm mc ms n) (hp : PreV s H C b Pc As)
    (hg : g.method = m) (hn : As.length = n) (hsize : g.locals.size = nL) (hstack : g.stack = As.reverse ++ .ref b :: rest) (hW : 2 * g.monitorRoom + (rest.map fun v => v.category).sum ≤ 8) (hdg : decode cc g.pc = .ok (.invokevirtual index, 3)) (hf : cells + mc ≤ R.cells ∧ slots + ms ≤ R.slots) :
    vx_Run p l e R s m args below meth c H locs cells slots mc ms g rest (Qc (Value.ref b :: As).toArray) XC free := by
  obtain ⟨⟨hrc, hrs, hfr, hlo, hws, hcw⟩, hcode, hini, hy, hlen, hl, hin, hse⟩ := cw
  have hK : vx_Back l R p e below s args y 3 8 (PreOf R mc ms Pc) (PostOf Qc mc ms free) (vx_Post XC mc ms free) := vx_backW (hh := hh) (bytes := bytes) (maxL := maxL) (ret := ret) hM hp.1 hrc hrs hfr hlo hws hcw (fun a' U hW => word_at hW (Or.inl (by first | rfl | simp [Cond.onTables, Cond.keeps, Cond.steady])) hini)
  obtain ⟨hx, hb, hml, ho, -⟩ := S
  obtain ⟨-, ⟨cellB, hcB, hoB, hclB⟩, hPc⟩ := hp
  intro T hT X
  rcases vx_callVX X hx (C := C) (hh := hh) (bytes := bytes) (maxL := maxL) (ret := ret) ho hl hin hse hcode hy hK (by rw [hT]; exact hcB) hoB hclB hg (hsize.trans hml.symm) (argsL := As) (rest := rest) (fun sig h => hn.trans (hlen sig h)) hstack hW (by rw [hb]; exact hdg)
    (fun vm₁ hW₁ => ⟨hf.1, hf.2, hPc (T.setVm vm₁) hT hW₁⟩) with ⟨v, vm₁, ⟨U', l2, c2, s2⟩, hW₁, X', ⟨g', mk, t, L, e1, e2, hq, h1, hL, h2, h3⟩, st⟩ | ⟨q, vm₁, ⟨U', l2, c2, s2⟩, hW₁, X', ⟨g', mk, t, L, E, ce, e1, e2, hq, hce, hcv, hcl, h1, hL, h2, h3⟩, st⟩
  · dsimp only [Pt.U, Pt.locs, Pt.cells, Pt.slots] at X' e1 e2 h1 h2 h3 st
    subst h1; subst h2; subst h3
    exact Or.inl ⟨v, (T.setVm vm₁).calling g' mk (Value.ref b :: As).toArray, t, U', L, hT, X', hL, e1, e2, hq, st⟩
  · dsimp only [Pt.U, Pt.locs, Pt.cells, Pt.slots] at X' e1 e2 h1 h2 h3 st hcl
    subst h1; subst h2; subst h3
    exact Or.inr ⟨q, (T.setVm vm₁).calling g' mk (Value.ref b :: As).toArray, t, U', L, E, ce, hT, X', hL, e1, e2, hq, hce, hcv, vx_cls hW₁ hcl, st⟩
theorem vx_runSX {hh : List (Nat × Nat × Nat × Nat)} (S : CallFix p m c cc nL s args Ts own) (hM : vx_Met l y ws rm Pc Qc XC mc ms free) (cw : vx_CSW R s args own index y bytes maxL ret hh ws rm mc ms n) (hp : PreS s H Pc As)
    (hg : g.method = m) (hn : As.length = n) (hsize : g.locals.size = nL) (hstack : g.stack = As.reverse ++ rest) (hW : 2 * g.monitorRoom + (rest.map fun v => v.category).sum ≤ 8) (hdg : decode cc g.pc = .ok (.invokestatic index, 3)) (hf : cells + mc ≤ R.cells ∧ slots + ms ≤ R.slots) :
    vx_Run p l e R s m args below meth c H locs cells slots mc ms g rest (Qc As.toArray) XC free := by
  obtain ⟨⟨hrc, hrs, hfr, hlo, hws, hcw⟩, hcode, hini, hy, hlen, hl, hstt⟩ := cw
  have hK : vx_Back l R p e below s args y 3 8 (PreOf R mc ms Pc) (PostOf Qc mc ms free) (vx_Post XC mc ms free) := vx_backW (hh := hh) (bytes := bytes) (maxL := maxL) (ret := ret) hM hp.1 hrc hrs hfr hlo hws hcw (fun a' U hW => word_at hW (Or.inl (by first | rfl | simp [Cond.onTables, Cond.keeps, Cond.steady])) hini)
  obtain ⟨hx, hb, hml, ho, -⟩ := S
  intro T hT X
  rcases vx_callSX X hx (hh := hh) (bytes := bytes) (maxL := maxL) (ret := ret) ho hl hstt hini hcode hy hK hg (hsize.trans hml.symm) (argsL := As) (rest := rest) (fun sig h => hn.trans (hlen sig h)) hstack hW (by rw [hb]; exact hdg)
    (fun vm₁ hW₁ => ⟨hf.1, hf.2, hp.2 (T.setVm vm₁) hT hW₁⟩) with ⟨v, vm₁, ⟨U', l2, c2, s2⟩, hW₁, X', ⟨g', mk, t, L, e1, e2, hq, h1, hL, h2, h3⟩, st⟩ | ⟨q, vm₁, ⟨U', l2, c2, s2⟩, hW₁, X', ⟨g', mk, t, L, E, ce, e1, e2, hq, hce, hcv, hcl, h1, hL, h2, h3⟩, st⟩
  · dsimp only [Pt.U, Pt.locs, Pt.cells, Pt.slots] at X' e1 e2 h1 h2 h3 st
    subst h1; subst h2; subst h3
    exact Or.inl ⟨v, (T.setVm vm₁).calling g' mk As.toArray, t, U', L, hT, X', hL, e1, e2, hq, st⟩
  · dsimp only [Pt.U, Pt.locs, Pt.cells, Pt.slots] at X' e1 e2 h1 h2 h3 st hcl
    subst h1; subst h2; subst h3
    exact Or.inr ⟨q, (T.setVm vm₁).calling g' mk As.toArray, t, U', L, E, ce, hT, X', hL, e1, e2, hq, hce, hcv, vx_cls hW₁ hcl, st⟩
end
end VXH
theorem vx_ofWH {l : Launch} {y : MethodName} {ws ws' : List Cond} {rm : Room} {Pc : Array Value → State → Prop} {Qc : Array Value → State → Outcome → State → Prop} {XC : String → State → State → Prop} {mc ms : Nat} {free : Addr → Prop} {cc : ByteArray} {maxL : Nat} {ret : Option FieldType} {hh : List (Nat × Nat × Nat × Nat)}
    (hy : plainName y.cls = true) (hw : ws = Cond.codeWith y cc maxL ret hh :: ws')
    (body : ∀ p e s m args below meth c s₁, BodyLoose p l y (headSpec ws rm) cc maxL ret e s m args below meth c s₁ → c.maxLocals = maxL → Pc args s →
      W p l e (headSpec ws rm).room s m args below meth c s.heap [] 0 0 (vx_MQ below Qc XC args s mc ms free) (entryFrame m args maxL)) : vx_Met l y ws rm Pc Qc XC mc ms free := by
  refine MetFree.of_bodyS (code := cc) (maxLocals := maxL) (ret := ret) hy ?_ ?_
  · intro args s m h hn
    obtain ⟨m9, meth, c, hn9, h1, h2, h3, h4, -, h5, h6, -⟩ := Cond.codeWith_spec (atoms_spec (ws := ws) h _ (by rw [hw]; exact List.mem_cons_self))
    cases hn.symm.trans hn9
    exact ⟨meth, c, h1, h2, h3, h4, h5, h6⟩
  · intro p e s m args below meth c s₁ B hml hP _
    have hh0 : s₁.heap = s.heap := by rw [B.state]; rfl
    obtain ⟨t, a1, o, b1, b2, b3⟩ := body p e s m args below meth c s₁ B hml hP s₁ hh0 (Stand.of_body B)
    exact ⟨t, o, a1, b1, b2, b3⟩
/-! ===== END ===== -/
end
section
def RX0 : String := "Clockhouse$LeapSeconds"
def TX0 : u_T := fun k => match k with
  | 0 => ("Clockhouse$LeapSeconds", "inserted", "I", false)
  | _ => ("Clockhouse$LeapSeconds", "deleted", "I", false)
def tyX0 : Nat → FieldType := fun k => match k with
  | 0 => .int
  | _ => .int
theorem nmX0 : ∀ a, a < 2 → ∀ b, b < 2 → a ≠ b → (TX0 a).2.1 ≠ (TX0 b).2.1 := by decide +kernel
theorem tyX0_ok : ∀ k, k < 2 → parseFieldDescriptor (TX0 k).2.2.1 = some (tyX0 k) := by decide +kernel
abbrev cX0_init : ByteArray := prog_2_method_1_code
def yX0_init : MethodName := ⟨RX0, "<init>", "()V"⟩
abbrev cX0_smearBeginning : ByteArray := prog_2_method_2_code
def yX0_smearBeginning : MethodName := ⟨RX0, "smearBeginning", "(I)J"⟩
abbrev cX0_clear : ByteArray := prog_2_method_3_code
def yX0_clear : MethodName := ⟨RX0, "clear", "()V"⟩
abbrev cX0_isAnnounced : ByteArray := prog_2_method_4_code
def yX0_isAnnounced : MethodName := ⟨RX0, "isAnnounced", "(I)Z"⟩
abbrev cX0_announce : ByteArray := prog_2_method_5_code
def yX0_announce : MethodName := ⟨RX0, "announce", "(IZ)V"⟩
abbrev cX0_civilTime : ByteArray := prog_2_method_6_code
def yX0_civilTime : MethodName := ⟨RX0, "civilTime", "(J)J"⟩
abbrev cX0_contains : ByteArray := prog_2_method_7_code
def yX0_contains : MethodName := ⟨RX0, "contains", "(II)Z"⟩
abbrev cX0_partCome : ByteArray := prog_2_method_8_code
def yX0_partCome : MethodName := ⟨RX0, "partCome", "(IJ)J"⟩
def RX1 : String := "Clockhouse$Oscillator"
def TX1 : u_T := fun k => match k with
  | 0 => ("Clockhouse$Oscillator", "picos", "J", false)
  | 1 => ("Clockhouse$Oscillator", "pendingPicos", "J", false)
  | 2 => ("Clockhouse$Oscillator", "driftRate", "I", false)
  | _ => ("Clockhouse$Oscillator", "correctionRate", "I", false)
def tyX1 : Nat → FieldType := fun k => match k with
  | 0 => .long
  | 1 => .long
  | 2 => .int
  | _ => .int
theorem nmX1 : ∀ a, a < 4 → ∀ b, b < 4 → a ≠ b → (TX1 a).2.1 ≠ (TX1 b).2.1 := by decide +kernel
theorem tyX1_ok : ∀ k, k < 4 → parseFieldDescriptor (TX1 k).2.2.1 = some (tyX1 k) := by decide +kernel
abbrev cX1_init : ByteArray := prog_3_method_1_code
def yX1_init : MethodName := ⟨RX1, "<init>", "()V"⟩
abbrev cX1_begin : ByteArray := prog_3_method_2_code
def yX1_begin : MethodName := ⟨RX1, "begin", "(I)V"⟩
abbrev cX1_reading : ByteArray := prog_3_method_3_code
def yX1_reading : MethodName := ⟨RX1, "reading", "()J"⟩
abbrev cX1_pendingMicros : ByteArray := prog_3_method_4_code
def yX1_pendingMicros : MethodName := ⟨RX1, "pendingMicros", "()J"⟩
abbrev cX1_presentCorrection : ByteArray := prog_3_method_5_code
def yX1_presentCorrection : MethodName := ⟨RX1, "presentCorrection", "()I"⟩
abbrev cX1_changeDrift : ByteArray := prog_3_method_6_code
def yX1_changeDrift : MethodName := ⟨RX1, "changeDrift", "(I)I"⟩
abbrev cX1_elapse : ByteArray := prog_3_method_7_code
def yX1_elapse : MethodName := ⟨RX1, "elapse", "(I)V"⟩
abbrev cX1_addCorrection : ByteArray := prog_3_method_8_code
def yX1_addCorrection : MethodName := ⟨RX1, "addCorrection", "(J)V"⟩
abbrev cX1_step : ByteArray := prog_3_method_9_code
def yX1_step : MethodName := ⟨RX1, "step", "(J)V"⟩
abbrev cX1_slew : ByteArray := prog_3_method_10_code
def yX1_slew : MethodName := ⟨RX1, "slew", "(J)V"⟩
def RX2 : String := "Clockhouse$Row"
def TX2 : u_T := fun k => match k with
  | _ => ("Clockhouse$Row", "cells", "[J", true)
def tyX2 : Nat → FieldType := fun k => match k with
  | _ => .array .long
theorem nmX2 : ∀ a, a < 1 → ∀ b, b < 1 → a ≠ b → (TX2 a).2.1 ≠ (TX2 b).2.1 := by decide +kernel
theorem tyX2_ok : ∀ k, k < 1 → parseFieldDescriptor (TX2 k).2.2.1 = some (tyX2 k) := by decide +kernel
abbrev cX2_init : ByteArray := prog_4_method_1_code
def yX2_init : MethodName := ⟨RX2, "<init>", "()V"⟩
abbrev cX2_get : ByteArray := prog_4_method_2_code
def yX2_get : MethodName := ⟨RX2, "get", "(I)J"⟩
abbrev cX2_put : ByteArray := prog_4_method_3_code
def yX2_put : MethodName := ⟨RX2, "put", "(IJ)V"⟩
abbrev cX2_push : ByteArray := prog_4_method_4_code
def yX2_push : MethodName := ⟨RX2, "push", "(J)V"⟩
def RX3 : String := "Clockhouse$Selection"
def TX3 : u_T := fun k => match k with
  | 0 => ("Clockhouse$Selection", "offsets", "LClockhouse$Row;", true)
  | 1 => ("Clockhouse$Selection", "distances", "LClockhouse$Row;", true)
  | 2 => ("Clockhouse$Selection", "jitters", "LClockhouse$Row;", true)
  | 3 => ("Clockhouse$Selection", "strata", "LClockhouse$Row;", true)
  | 4 => ("Clockhouse$Selection", "candidateSet", "I", false)
  | 5 => ("Clockhouse$Selection", "agreeingSet", "I", false)
  | 6 => ("Clockhouse$Selection", "survivorSet", "I", false)
  | 7 => ("Clockhouse$Selection", "lowest", "J", false)
  | _ => ("Clockhouse$Selection", "highest", "J", false)
def tyX3 : Nat → FieldType := fun k => match k with
  | 0 => .object "Clockhouse$Row"
  | 1 => .object "Clockhouse$Row"
  | 2 => .object "Clockhouse$Row"
  | 3 => .object "Clockhouse$Row"
  | 4 => .int
  | 5 => .int
  | 6 => .int
  | 7 => .long
  | _ => .long
theorem nmX3 : ∀ a, a < 9 → ∀ b, b < 9 → a ≠ b → (TX3 a).2.1 ≠ (TX3 b).2.1 := by decide +kernel
theorem tyX3_ok : ∀ k, k < 9 → parseFieldDescriptor (TX3 k).2.2.1 = some (tyX3 k) := by decide +kernel
abbrev cX3_init : ByteArray := prog_5_method_1_code
def yX3_init : MethodName := ⟨RX3, "<init>", "()V"⟩
abbrev cX3_clear : ByteArray := prog_5_method_2_code
def yX3_clear : MethodName := ⟨RX3, "clear", "()V"⟩
abbrev cX3_enter : ByteArray := prog_5_method_3_code
def yX3_enter : MethodName := ⟨RX3, "enter", "(ILClockhouse$Server;J)V"⟩
abbrev cX3_isEmpty : ByteArray := prog_5_method_4_code
def yX3_isEmpty : MethodName := ⟨RX3, "isEmpty", "()Z"⟩
abbrev cX3_isMajority : ByteArray := prog_5_method_5_code
def yX3_isMajority : MethodName := ⟨RX3, "isMajority", "()Z"⟩
abbrev cX3_agreed : ByteArray := prog_5_method_6_code
def yX3_agreed : MethodName := ⟨RX3, "agreed", "()I"⟩
abbrev cX3_agreeingBits : ByteArray := prog_5_method_7_code
def yX3_agreeingBits : MethodName := ⟨RX3, "agreeingBits", "()I"⟩
abbrev cX3_survivorBits : ByteArray := prog_5_method_8_code
def yX3_survivorBits : MethodName := ⟨RX3, "survivorBits", "()I"⟩
abbrev cX3_lowEnd : ByteArray := prog_5_method_9_code
def yX3_lowEnd : MethodName := ⟨RX3, "lowEnd", "()J"⟩
abbrev cX3_highEnd : ByteArray := prog_5_method_10_code
def yX3_highEnd : MethodName := ⟨RX3, "highEnd", "()J"⟩
abbrev cX3_intersect : ByteArray := prog_5_method_11_code
def yX3_intersect : MethodName := ⟨RX3, "intersect", "()V"⟩
abbrev cX3_tryLowEnd : ByteArray := prog_5_method_12_code
def yX3_tryLowEnd : MethodName := ⟨RX3, "tryLowEnd", "(J)V"⟩
abbrev cX3_intervalsWith : ByteArray := prog_5_method_13_code
def yX3_intervalsWith : MethodName := ⟨RX3, "intervalsWith", "(J)I"⟩
abbrev cX3_leastUpperEnd : ByteArray := prog_5_method_14_code
def yX3_leastUpperEnd : MethodName := ⟨RX3, "leastUpperEnd", "()J"⟩
abbrev cX3_cluster : ByteArray := prog_5_method_15_code
def yX3_cluster : MethodName := ⟨RX3, "cluster", "()V"⟩
abbrev cX3_widestSpread : ByteArray := prog_5_method_16_code
def yX3_widestSpread : MethodName := ⟨RX3, "widestSpread", "()I"⟩
abbrev cX3_spread : ByteArray := prog_5_method_17_code
def yX3_spread : MethodName := ⟨RX3, "spread", "(I)J"⟩
abbrev cX3_leastJitter : ByteArray := prog_5_method_18_code
def yX3_leastJitter : MethodName := ⟨RX3, "leastJitter", "()J"⟩
abbrev cX3_weightedOffset : ByteArray := prog_5_method_19_code
def yX3_weightedOffset : MethodName := ⟨RX3, "weightedOffset", "()J"⟩
abbrev cX3_weight : ByteArray := prog_5_method_20_code
def yX3_weight : MethodName := ⟨RX3, "weight", "(I)J"⟩
abbrev cX3_preferred : ByteArray := prog_5_method_21_code
def yX3_preferred : MethodName := ⟨RX3, "preferred", "()I"⟩
abbrev cX3_isBetter : ByteArray := prog_5_method_22_code
def yX3_isBetter : MethodName := ⟨RX3, "isBetter", "(II)Z"⟩
abbrev cX3_contains : ByteArray := prog_5_method_23_code
def yX3_contains : MethodName := ⟨RX3, "contains", "(II)Z"⟩
def RX4 : String := "Clockhouse$Server"
def TX4 : u_T := fun k => match k with
  | 0 => ("Clockhouse$Server", "offsets", "LClockhouse$Row;", true)
  | 1 => ("Clockhouse$Server", "delays", "LClockhouse$Row;", true)
  | 2 => ("Clockhouse$Server", "times", "LClockhouse$Row;", true)
  | 3 => ("Clockhouse$Server", "count", "I", false)
  | 4 => ("Clockhouse$Server", "best", "I", false)
  | 5 => ("Clockhouse$Server", "level", "I", false)
  | 6 => ("Clockhouse$Server", "clockError", "I", false)
  | 7 => ("Clockhouse$Server", "rootDelay", "J", false)
  | _ => ("Clockhouse$Server", "rootDispersion", "J", false)
def tyX4 : Nat → FieldType := fun k => match k with
  | 0 => .object "Clockhouse$Row"
  | 1 => .object "Clockhouse$Row"
  | 2 => .object "Clockhouse$Row"
  | 3 => .int
  | 4 => .int
  | 5 => .int
  | 6 => .int
  | 7 => .long
  | _ => .long
theorem nmX4 : ∀ a, a < 9 → ∀ b, b < 9 → a ≠ b → (TX4 a).2.1 ≠ (TX4 b).2.1 := by decide +kernel
theorem tyX4_ok : ∀ k, k < 9 → parseFieldDescriptor (TX4 k).2.2.1 = some (tyX4 k) := by decide +kernel
abbrev cX4_init : ByteArray := prog_6_method_1_code
def yX4_init : MethodName := ⟨RX4, "<init>", "()V"⟩
abbrev cX4_settle : ByteArray := prog_6_method_2_code
def yX4_settle : MethodName := ⟨RX4, "settle", "(IIII)V"⟩
abbrev cX4_forget : ByteArray := prog_6_method_3_code
def yX4_forget : MethodName := ⟨RX4, "forget", "()V"⟩
abbrev cX4_kept : ByteArray := prog_6_method_4_code
def yX4_kept : MethodName := ⟨RX4, "kept", "()I"⟩
abbrev cX4_ownStratum : ByteArray := prog_6_method_5_code
def yX4_ownStratum : MethodName := ⟨RX4, "ownStratum", "()I"⟩
abbrev cX4_changeError : ByteArray := prog_6_method_6_code
def yX4_changeError : MethodName := ⟨RX4, "changeError", "(I)I"⟩
abbrev cX4_readingAt : ByteArray := prog_6_method_7_code
def yX4_readingAt : MethodName := ⟨RX4, "readingAt", "(J)J"⟩
abbrev cX4_keep : ByteArray := prog_6_method_8_code
def yX4_keep : MethodName := ⟨RX4, "keep", "(JJJ)V"⟩
abbrev cX4_bestOffset : ByteArray := prog_6_method_9_code
def yX4_bestOffset : MethodName := ⟨RX4, "bestOffset", "()J"⟩
abbrev cX4_bestDelay : ByteArray := prog_6_method_10_code
def yX4_bestDelay : MethodName := ⟨RX4, "bestDelay", "()J"⟩
abbrev cX4_offsetJitter : ByteArray := prog_6_method_11_code
def yX4_offsetJitter : MethodName := ⟨RX4, "offsetJitter", "()J"⟩
abbrev cX4_distanceAt : ByteArray := prog_6_method_12_code
def yX4_distanceAt : MethodName := ⟨RX4, "distanceAt", "(J)J"⟩
abbrev cX4_leastDelay : ByteArray := prog_6_method_13_code
def yX4_leastDelay : MethodName := ⟨RX4, "leastDelay", "()I"⟩
def RX5 : String := "Clockhouse"
def TX5 : u_T := fun k => match k with
  | 0 => ("Clockhouse", "oscillator", "LClockhouse$Oscillator;", true)
  | 1 => ("Clockhouse", "leapSeconds", "LClockhouse$LeapSeconds;", true)
  | 2 => ("Clockhouse", "rooms", "[LClockhouse$Server;", true)
  | 3 => ("Clockhouse", "selection", "LClockhouse$Selection;", true)
  | 4 => ("Clockhouse", "serverCount", "I", false)
  | 5 => ("Clockhouse", "truth", "J", false)
  | 6 => ("Clockhouse", "clientStratum", "I", false)
  | 7 => ("Clockhouse", "stepCount", "I", false)
  | 8 => ("Clockhouse", "synchronizationCount", "I", false)
  | _ => ("Clockhouse", "readingBehindSynchronization", "J", false)
def tyX5 : Nat → FieldType := fun k => match k with
  | 0 => .object "Clockhouse$Oscillator"
  | 1 => .object "Clockhouse$LeapSeconds"
  | 2 => .array (.object "Clockhouse$Server")
  | 3 => .object "Clockhouse$Selection"
  | 4 => .int
  | 5 => .long
  | 6 => .int
  | 7 => .int
  | 8 => .int
  | _ => .long
theorem nmX5 : ∀ a, a < 10 → ∀ b, b < 10 → a ≠ b → (TX5 a).2.1 ≠ (TX5 b).2.1 := by decide +kernel
theorem tyX5_ok : ∀ k, k < 10 → parseFieldDescriptor (TX5 k).2.2.1 = some (tyX5 k) := by decide +kernel
abbrev cX5_init : ByteArray := prog_1_method_1_code
def yX5_init : MethodName := ⟨RX5, "<init>", "()V"⟩
abbrev cX5_restart : ByteArray := prog_1_method_2_code
def yX5_restart : MethodName := ⟨RX5, "restart", "(I)V"⟩
abbrev cX5_pass : ByteArray := prog_1_method_3_code
def yX5_pass : MethodName := ⟨RX5, "pass", "(I)J"⟩
abbrev cX5_setDrift : ByteArray := prog_1_method_4_code
def yX5_setDrift : MethodName := ⟨RX5, "setDrift", "(I)I"⟩
abbrev cX5_trueTime : ByteArray := prog_1_method_5_code
def yX5_trueTime : MethodName := ⟨RX5, "trueTime", "()J"⟩
abbrev cX5_clock : ByteArray := prog_1_method_6_code
def yX5_clock : MethodName := ⟨RX5, "clock", "()J"⟩
abbrev cX5_error : ByteArray := prog_1_method_7_code
def yX5_error : MethodName := ⟨RX5, "error", "()J"⟩
abbrev cX5_pendingSlew : ByteArray := prog_1_method_8_code
def yX5_pendingSlew : MethodName := ⟨RX5, "pendingSlew", "()J"⟩
abbrev cX5_correction : ByteArray := prog_1_method_9_code
def yX5_correction : MethodName := ⟨RX5, "correction", "()I"⟩
abbrev cX5_announceLeap : ByteArray := prog_1_method_10_code
def yX5_announceLeap : MethodName := ⟨RX5, "announceLeap", "(IZ)J"⟩
abbrev cX5_civil : ByteArray := prog_1_method_11_code
def yX5_civil : MethodName := ⟨RX5, "civil", "()J"⟩
abbrev cX5_addServer : ByteArray := prog_1_method_12_code
def yX5_addServer : MethodName := ⟨RX5, "addServer", "(IIII)I"⟩
abbrev cX5_setError : ByteArray := prog_1_method_13_code
def yX5_setError : MethodName := ⟨RX5, "setError", "(II)I"⟩
abbrev cX5_exchange : ByteArray := prog_1_method_14_code
def yX5_exchange : MethodName := ⟨RX5, "exchange", "(IIII)J"⟩
abbrev cX5_servers : ByteArray := prog_1_method_15_code
def yX5_servers : MethodName := ⟨RX5, "servers", "()I"⟩
abbrev cX5_samples : ByteArray := prog_1_method_16_code
def yX5_samples : MethodName := ⟨RX5, "samples", "(I)I"⟩
abbrev cX5_offset : ByteArray := prog_1_method_17_code
def yX5_offset : MethodName := ⟨RX5, "offset", "(I)J"⟩
abbrev cX5_delay : ByteArray := prog_1_method_18_code
def yX5_delay : MethodName := ⟨RX5, "delay", "(I)J"⟩
abbrev cX5_jitter : ByteArray := prog_1_method_19_code
def yX5_jitter : MethodName := ⟨RX5, "jitter", "(I)J"⟩
abbrev cX5_distance : ByteArray := prog_1_method_20_code
def yX5_distance : MethodName := ⟨RX5, "distance", "(I)J"⟩
abbrev cX5_agreement : ByteArray := prog_1_method_21_code
def yX5_agreement : MethodName := ⟨RX5, "agreement", "()I"⟩
abbrev cX5_hasMajority : ByteArray := prog_1_method_22_code
def yX5_hasMajority : MethodName := ⟨RX5, "hasMajority", "()Z"⟩
abbrev cX5_agreeing : ByteArray := prog_1_method_23_code
def yX5_agreeing : MethodName := ⟨RX5, "agreeing", "()I"⟩
abbrev cX5_low : ByteArray := prog_1_method_24_code
def yX5_low : MethodName := ⟨RX5, "low", "()J"⟩
abbrev cX5_high : ByteArray := prog_1_method_25_code
def yX5_high : MethodName := ⟨RX5, "high", "()J"⟩
abbrev cX5_survivors : ByteArray := prog_1_method_26_code
def yX5_survivors : MethodName := ⟨RX5, "survivors", "()I"⟩
abbrev cX5_combinedOffset : ByteArray := prog_1_method_27_code
def yX5_combinedOffset : MethodName := ⟨RX5, "combinedOffset", "()J"⟩
abbrev cX5_peer : ByteArray := prog_1_method_28_code
def yX5_peer : MethodName := ⟨RX5, "peer", "()I"⟩
abbrev cX5_synchronize : ByteArray := prog_1_method_29_code
def yX5_synchronize : MethodName := ⟨RX5, "synchronize", "()I"⟩
abbrev cX5_stratum : ByteArray := prog_1_method_30_code
def yX5_stratum : MethodName := ⟨RX5, "stratum", "()I"⟩
abbrev cX5_steps : ByteArray := prog_1_method_31_code
def yX5_steps : MethodName := ⟨RX5, "steps", "()I"⟩
abbrev cX5_synchronizations : ByteArray := prog_1_method_32_code
def yX5_synchronizations : MethodName := ⟨RX5, "synchronizations", "()I"⟩
abbrev cX5_isWithin : ByteArray := prog_1_method_33_code
def yX5_isWithin : MethodName := ⟨RX5, "isWithin", "(III)Z"⟩
abbrev cX5_isServerError : ByteArray := prog_1_method_34_code
def yX5_isServerError : MethodName := ⟨RX5, "isServerError", "(I)Z"⟩
abbrev cX5_begin : ByteArray := prog_1_method_35_code
def yX5_begin : MethodName := ⟨RX5, "begin", "(I)V"⟩
abbrev cX5_isBeyondLastTrueTime : ByteArray := prog_1_method_36_code
def yX5_isBeyondLastTrueTime : MethodName := ⟨RX5, "isBeyondLastTrueTime", "(J)Z"⟩
abbrev cX5_elapse : ByteArray := prog_1_method_37_code
def yX5_elapse : MethodName := ⟨RX5, "elapse", "(I)V"⟩
abbrev cX5_roomOrNull : ByteArray := prog_1_method_38_code
def yX5_roomOrNull : MethodName := ⟨RX5, "roomOrNull", "(I)LClockhouse$Server;"⟩
abbrev cX5_serverOrNull : ByteArray := prog_1_method_39_code
def yX5_serverOrNull : MethodName := ⟨RX5, "serverOrNull", "(I)LClockhouse$Server;"⟩
abbrev cX5_knownServer : ByteArray := prog_1_method_40_code
def yX5_knownServer : MethodName := ⟨RX5, "knownServer", "(I)LClockhouse$Server;"⟩
abbrev cX5_heardServer : ByteArray := prog_1_method_41_code
def yX5_heardServer : MethodName := ⟨RX5, "heardServer", "(I)LClockhouse$Server;"⟩
abbrev cX5_takeSample : ByteArray := prog_1_method_42_code
def yX5_takeSample : MethodName := ⟨RX5, "takeSample", "(LClockhouse$Server;III)J"⟩
abbrev cX5_select : ByteArray := prog_1_method_43_code
def yX5_select : MethodName := ⟨RX5, "select", "()V"⟩
abbrev cX5_selectFromSome : ByteArray := prog_1_method_44_code
def yX5_selectFromSome : MethodName := ⟨RX5, "selectFromSome", "()V"⟩
abbrev cX5_correctRate : ByteArray := prog_1_method_45_code
def yX5_correctRate : MethodName := ⟨RX5, "correctRate", "(J)V"⟩
abbrev cX5_correctTime : ByteArray := prog_1_method_46_code
def yX5_correctTime : MethodName := ⟨RX5, "correctTime", "(J)I"⟩
abbrev cX5_takeStratumOfPeer : ByteArray := prog_1_method_47_code
def yX5_takeStratumOfPeer : MethodName := ⟨RX5, "takeStratumOfPeer", "()V"⟩
abbrev cX5_forgetSamples : ByteArray := prog_1_method_48_code
def yX5_forgetSamples : MethodName := ⟨RX5, "forgetSamples", "()V"⟩
def RX6 : String := "ClockhouseModel"
def TX6 : u_T := fun k => match k with
  | 0 => ("ClockhouseModel", "refusal", "I", false)
  | 1 => ("ClockhouseModel", "now", "J", false)
  | 2 => ("ClockhouseModel", "picos", "J", false)
  | 3 => ("ClockhouseModel", "pending", "J", false)
  | 4 => ("ClockhouseModel", "drift", "I", false)
  | 5 => ("ClockhouseModel", "correction", "I", false)
  | 6 => ("ClockhouseModel", "steps", "I", false)
  | 7 => ("ClockhouseModel", "synchronizations", "I", false)
  | 8 => ("ClockhouseModel", "stratum", "I", false)
  | 9 => ("ClockhouseModel", "lastReading", "J", false)
  | 10 => ("ClockhouseModel", "leaps", "[I", true)
  | 11 => ("ClockhouseModel", "servers", "I", false)
  | 12 => ("ClockhouseModel", "strata", "[I", true)
  | 13 => ("ClockhouseModel", "errors", "[I", true)
  | 14 => ("ClockhouseModel", "rootDelays", "[I", true)
  | 15 => ("ClockhouseModel", "rootDispersions", "[I", true)
  | 16 => ("ClockhouseModel", "kept", "[I", true)
  | 17 => ("ClockhouseModel", "offsets", "[J", true)
  | 18 => ("ClockhouseModel", "delays", "[J", true)
  | 19 => ("ClockhouseModel", "times", "[J", true)
  | 20 => ("ClockhouseModel", "candidates", "I", false)
  | 21 => ("ClockhouseModel", "most", "I", false)
  | 22 => ("ClockhouseModel", "lowEnd", "J", false)
  | 23 => ("ClockhouseModel", "highEnd", "J", false)
  | 24 => ("ClockhouseModel", "agrees", "[Z", true)
  | _ => ("ClockhouseModel", "survives", "[Z", true)
def tyX6 : Nat → FieldType := fun k => match k with
  | 0 => .int
  | 1 => .long
  | 2 => .long
  | 3 => .long
  | 4 => .int
  | 5 => .int
  | 6 => .int
  | 7 => .int
  | 8 => .int
  | 9 => .long
  | 10 => .array .int
  | 11 => .int
  | 12 => .array .int
  | 13 => .array .int
  | 14 => .array .int
  | 15 => .array .int
  | 16 => .array .int
  | 17 => .array .long
  | 18 => .array .long
  | 19 => .array .long
  | 20 => .int
  | 21 => .int
  | 22 => .long
  | 23 => .long
  | 24 => .array .boolean
  | _ => .array .boolean
theorem nmX6 : ∀ a, a < 26 → ∀ b, b < 26 → a ≠ b → (TX6 a).2.1 ≠ (TX6 b).2.1 := by decide +kernel
theorem tyX6_ok : ∀ k, k < 26 → parseFieldDescriptor (TX6 k).2.2.1 = some (tyX6 k) := by decide +kernel
abbrev cX6_init : ByteArray := prog_8_method_1_code
def yX6_init : MethodName := ⟨RX6, "<init>", "()V"⟩
abbrev cX6_thrown : ByteArray := prog_8_method_2_code
def yX6_thrown : MethodName := ⟨RX6, "thrown", "()I"⟩
abbrev cX6_refused : ByteArray := prog_8_method_3_code
def yX6_refused : MethodName := ⟨RX6, "refused", "(I)Z"⟩
abbrev cX6_fine : ByteArray := prog_8_method_4_code
def yX6_fine : MethodName := ⟨RX6, "fine", "(I)I"⟩
abbrev cX6_fineLong : ByteArray := prog_8_method_5_code
def yX6_fineLong : MethodName := ⟨RX6, "fineLong", "(J)J"⟩
abbrev cX6_in : ByteArray := prog_8_method_6_code
def yX6_in : MethodName := ⟨RX6, "in", "(JJJ)Z"⟩
abbrev cX6_down : ByteArray := prog_8_method_7_code
def yX6_down : MethodName := ⟨RX6, "down", "(JJ)J"⟩
abbrev cX6_size : ByteArray := prog_8_method_8_code
def yX6_size : MethodName := ⟨RX6, "size", "(J)J"⟩
abbrev cX6_reading : ByteArray := prog_8_method_9_code
def yX6_reading : MethodName := ⟨RX6, "reading", "()J"⟩
abbrev cX6_restart : ByteArray := prog_8_method_10_code
def yX6_restart : MethodName := ⟨RX6, "restart", "(I)V"⟩
abbrev cX6_goOn : ByteArray := prog_8_method_11_code
def yX6_goOn : MethodName := ⟨RX6, "goOn", "(I)V"⟩
abbrev cX6_pass : ByteArray := prog_8_method_12_code
def yX6_pass : MethodName := ⟨RX6, "pass", "(I)J"⟩
abbrev cX6_setDrift : ByteArray := prog_8_method_13_code
def yX6_setDrift : MethodName := ⟨RX6, "setDrift", "(I)I"⟩
abbrev cX6_trueTime : ByteArray := prog_8_method_14_code
def yX6_trueTime : MethodName := ⟨RX6, "trueTime", "()J"⟩
abbrev cX6_clock : ByteArray := prog_8_method_15_code
def yX6_clock : MethodName := ⟨RX6, "clock", "()J"⟩
abbrev cX6_error : ByteArray := prog_8_method_16_code
def yX6_error : MethodName := ⟨RX6, "error", "()J"⟩
abbrev cX6_pendingSlew : ByteArray := prog_8_method_17_code
def yX6_pendingSlew : MethodName := ⟨RX6, "pendingSlew", "()J"⟩
abbrev cX6_correction : ByteArray := prog_8_method_18_code
def yX6_correction : MethodName := ⟨RX6, "correction", "()I"⟩
abbrev cX6_smearFrom : ByteArray := prog_8_method_19_code
def yX6_smearFrom : MethodName := ⟨RX6, "smearFrom", "(I)J"⟩
abbrev cX6_announceLeap : ByteArray := prog_8_method_20_code
def yX6_announceLeap : MethodName := ⟨RX6, "announceLeap", "(IZ)J"⟩
abbrev cX6_civil : ByteArray := prog_8_method_21_code
def yX6_civil : MethodName := ⟨RX6, "civil", "()J"⟩
abbrev cX6_addServer : ByteArray := prog_8_method_22_code
def yX6_addServer : MethodName := ⟨RX6, "addServer", "(IIII)I"⟩
abbrev cX6_isServer : ByteArray := prog_8_method_23_code
def yX6_isServer : MethodName := ⟨RX6, "isServer", "(I)Z"⟩
abbrev cX6_setError : ByteArray := prog_8_method_24_code
def yX6_setError : MethodName := ⟨RX6, "setError", "(II)I"⟩
abbrev cX6_keep : ByteArray := prog_8_method_25_code
def yX6_keep : MethodName := ⟨RX6, "keep", "(IJJJ)V"⟩
abbrev cX6_exchange : ByteArray := prog_8_method_26_code
def yX6_exchange : MethodName := ⟨RX6, "exchange", "(IIII)J"⟩
abbrev cX6_servers : ByteArray := prog_8_method_27_code
def yX6_servers : MethodName := ⟨RX6, "servers", "()I"⟩
abbrev cX6_samples : ByteArray := prog_8_method_28_code
def yX6_samples : MethodName := ⟨RX6, "samples", "(I)I"⟩
abbrev cX6_best : ByteArray := prog_8_method_29_code
def yX6_best : MethodName := ⟨RX6, "best", "(I)I"⟩
abbrev cX6_jitterOf : ByteArray := prog_8_method_30_code
def yX6_jitterOf : MethodName := ⟨RX6, "jitterOf", "(I)J"⟩
abbrev cX6_distanceOf : ByteArray := prog_8_method_31_code
def yX6_distanceOf : MethodName := ⟨RX6, "distanceOf", "(I)J"⟩
abbrev cX6_noSample : ByteArray := prog_8_method_32_code
def yX6_noSample : MethodName := ⟨RX6, "noSample", "(I)Z"⟩
abbrev cX6_offset : ByteArray := prog_8_method_33_code
def yX6_offset : MethodName := ⟨RX6, "offset", "(I)J"⟩
abbrev cX6_delay : ByteArray := prog_8_method_34_code
def yX6_delay : MethodName := ⟨RX6, "delay", "(I)J"⟩
abbrev cX6_jitter : ByteArray := prog_8_method_35_code
def yX6_jitter : MethodName := ⟨RX6, "jitter", "(I)J"⟩
abbrev cX6_distance : ByteArray := prog_8_method_36_code
def yX6_distance : MethodName := ⟨RX6, "distance", "(I)J"⟩
abbrev cX6_from : ByteArray := prog_8_method_37_code
def yX6_from : MethodName := ⟨RX6, "from", "(I)J"⟩
abbrev cX6_to : ByteArray := prog_8_method_38_code
def yX6_to : MethodName := ⟨RX6, "to", "(I)J"⟩
abbrev cX6_has : ByteArray := prog_8_method_39_code
def yX6_has : MethodName := ⟨RX6, "has", "(IJ)Z"⟩
abbrev cX6_covers : ByteArray := prog_8_method_40_code
def yX6_covers : MethodName := ⟨RX6, "covers", "(J)I"⟩
abbrev cX6_intersect : ByteArray := prog_8_method_41_code
def yX6_intersect : MethodName := ⟨RX6, "intersect", "()V"⟩
abbrev cX6_surviving : ByteArray := prog_8_method_42_code
def yX6_surviving : MethodName := ⟨RX6, "surviving", "()I"⟩
abbrev cX6_spread : ByteArray := prog_8_method_43_code
def yX6_spread : MethodName := ⟨RX6, "spread", "(I)J"⟩
abbrev cX6_removes : ByteArray := prog_8_method_44_code
def yX6_removes : MethodName := ⟨RX6, "removes", "()Z"⟩
abbrev cX6_select : ByteArray := prog_8_method_45_code
def yX6_select : MethodName := ⟨RX6, "select", "()V"⟩
abbrev cX6_set : ByteArray := prog_8_method_46_code
def yX6_set : MethodName := ⟨RX6, "set", "([Z)I"⟩
abbrev cX6_agreement : ByteArray := prog_8_method_47_code
def yX6_agreement : MethodName := ⟨RX6, "agreement", "()I"⟩
abbrev cX6_hasMajority : ByteArray := prog_8_method_48_code
def yX6_hasMajority : MethodName := ⟨RX6, "hasMajority", "()Z"⟩
abbrev cX6_agreeing : ByteArray := prog_8_method_49_code
def yX6_agreeing : MethodName := ⟨RX6, "agreeing", "()I"⟩
abbrev cX6_low : ByteArray := prog_8_method_50_code
def yX6_low : MethodName := ⟨RX6, "low", "()J"⟩
abbrev cX6_high : ByteArray := prog_8_method_51_code
def yX6_high : MethodName := ⟨RX6, "high", "()J"⟩
abbrev cX6_survivors : ByteArray := prog_8_method_52_code
def yX6_survivors : MethodName := ⟨RX6, "survivors", "()I"⟩
abbrev cX6_combined : ByteArray := prog_8_method_53_code
def yX6_combined : MethodName := ⟨RX6, "combined", "()J"⟩
abbrev cX6_combinedOffset : ByteArray := prog_8_method_54_code
def yX6_combinedOffset : MethodName := ⟨RX6, "combinedOffset", "()J"⟩
abbrev cX6_leader : ByteArray := prog_8_method_55_code
def yX6_leader : MethodName := ⟨RX6, "leader", "()I"⟩
abbrev cX6_peer : ByteArray := prog_8_method_56_code
def yX6_peer : MethodName := ⟨RX6, "peer", "()I"⟩
abbrev cX6_held : ByteArray := prog_8_method_57_code
def yX6_held : MethodName := ⟨RX6, "held", "(J)I"⟩
abbrev cX6_synchronize : ByteArray := prog_8_method_58_code
def yX6_synchronize : MethodName := ⟨RX6, "synchronize", "()I"⟩
abbrev cX6_stratum : ByteArray := prog_8_method_59_code
def yX6_stratum : MethodName := ⟨RX6, "stratum", "()I"⟩
abbrev cX6_steps : ByteArray := prog_8_method_60_code
def yX6_steps : MethodName := ⟨RX6, "steps", "()I"⟩
abbrev cX6_synchronizations : ByteArray := prog_8_method_61_code
def yX6_synchronizations : MethodName := ⟨RX6, "synchronizations", "()I"⟩
def RJ6 : String := "java/lang/Integer"
def TJ6 : u_T := fun k => match k with
  | _ => ("", "", "", false)
def tyJ6 : Nat → FieldType := fun k => match k with
  | _ => .int
theorem nmJ6 : ∀ a, a < 0 → ∀ b, b < 0 → a ≠ b → (TJ6 a).2.1 ≠ (TJ6 b).2.1 := by decide +kernel
theorem tyJ6_ok : ∀ k, k < 0 → parseFieldDescriptor (TJ6 k).2.2.1 = some (tyJ6 k) := by decide +kernel
abbrev cJ6_bitCount_0f7a4 : ByteArray := prog_13_method_49_code
def yJ6_bitCount_0f7a4 : MethodName := ⟨RJ6, "bitCount", "(I)I"⟩
def RJ9 : String := "java/lang/Math"
def TJ9 : u_T := fun k => match k with
  | _ => ("", "", "", false)
def tyJ9 : Nat → FieldType := fun k => match k with
  | _ => .int
theorem nmJ9 : ∀ a, a < 0 → ∀ b, b < 0 → a ≠ b → (TJ9 a).2.1 ≠ (TJ9 b).2.1 := by decide +kernel
theorem tyJ9_ok : ∀ k, k < 0 → parseFieldDescriptor (TJ9 k).2.2.1 = some (tyJ9 k) := by decide +kernel
abbrev cJ9_floorDiv_f86c9 : ByteArray := prog_14_method_49_code
def yJ9_floorDiv_f86c9 : MethodName := ⟨RJ9, "floorDiv", "(JJ)J"⟩
abbrev cJ9_abs_067f4 : ByteArray := prog_14_method_61_code
def yJ9_abs_067f4 : MethodName := ⟨RJ9, "abs", "(J)J"⟩
abbrev cJ9_max_f86c9 : ByteArray := prog_14_method_66_code
def yJ9_max_f86c9 : MethodName := ⟨RJ9, "max", "(JJ)J"⟩
abbrev cJ9_min_7cf53 : ByteArray := prog_14_method_69_code
def yJ9_min_7cf53 : MethodName := ⟨RJ9, "min", "(II)I"⟩
abbrev cJ9_min_f86c9 : ByteArray := prog_14_method_70_code
def yJ9_min_f86c9 : MethodName := ⟨RJ9, "min", "(JJ)J"⟩
def RL : String := "ClockhouseLaw"
abbrev cL_restart : ByteArray := method_3_code
def yL_restart : MethodName := ⟨RL, "restart", "(LClockhouse;I)I"⟩
abbrev cL_pass : ByteArray := method_4_code
def yL_pass : MethodName := ⟨RL, "pass", "(LClockhouse;I[J)I"⟩
abbrev cL_setDrift : ByteArray := method_5_code
def yL_setDrift : MethodName := ⟨RL, "setDrift", "(LClockhouse;I[J)I"⟩
abbrev cL_announceLeap : ByteArray := method_6_code
def yL_announceLeap : MethodName := ⟨RL, "announceLeap", "(LClockhouse;IZ[J)I"⟩
abbrev cL_addServer : ByteArray := method_7_code
def yL_addServer : MethodName := ⟨RL, "addServer", "(LClockhouse;IIII[J)I"⟩
abbrev cL_setError : ByteArray := method_8_code
def yL_setError : MethodName := ⟨RL, "setError", "(LClockhouse;II[J)I"⟩
abbrev cL_exchange : ByteArray := method_9_code
def yL_exchange : MethodName := ⟨RL, "exchange", "(LClockhouse;IIII[J)I"⟩
abbrev cL_samples : ByteArray := method_10_code
def yL_samples : MethodName := ⟨RL, "samples", "(LClockhouse;I[J)I"⟩
abbrev cL_offset : ByteArray := method_11_code
def yL_offset : MethodName := ⟨RL, "offset", "(LClockhouse;I[J)I"⟩
abbrev cL_delay : ByteArray := method_12_code
def yL_delay : MethodName := ⟨RL, "delay", "(LClockhouse;I[J)I"⟩
abbrev cL_jitter : ByteArray := method_13_code
def yL_jitter : MethodName := ⟨RL, "jitter", "(LClockhouse;I[J)I"⟩
abbrev cL_distance : ByteArray := method_14_code
def yL_distance : MethodName := ⟨RL, "distance", "(LClockhouse;I[J)I"⟩
abbrev cL_low : ByteArray := method_15_code
def yL_low : MethodName := ⟨RL, "low", "(LClockhouse;[J)I"⟩
abbrev cL_high : ByteArray := method_16_code
def yL_high : MethodName := ⟨RL, "high", "(LClockhouse;[J)I"⟩
abbrev cL_combinedOffset : ByteArray := method_17_code
def yL_combinedOffset : MethodName := ⟨RL, "combinedOffset", "(LClockhouse;[J)I"⟩
abbrev cL_synchronize : ByteArray := method_18_code
def yL_synchronize : MethodName := ⟨RL, "synchronize", "(LClockhouse;[J)I"⟩
abbrev cL_law : ByteArray := code
def yL_law : MethodName := ⟨RL, "law", "([I)Z"⟩
abbrev vwCl : List vw_C := [(RX0, TX0, 2), (RX1, TX1, 4), (RX2, TX2, 1), (RX3, TX3, 9), (RX4, TX4, 9), (RX5, TX5, 10), (RX6, TX6, 26)]
def AG : List Cond := lw_tbl.filter goodWord
theorem ag (i : Nat) {w : Cond} (h : lw_tbl[i]? = some w) (g : goodWord w = true) : w ∈ AG := List.mem_filter.mpr ⟨List.mem_of_getElem? h, g⟩
theorem AG_good : GoodIn AG AG := fun w h => ⟨h, good_of_word (List.mem_filter.mp h).2⟩
theorem AG_tbl : ∀ w ∈ AG, w ∈ lw_tbl := fun w h => (List.mem_filter.mp h).1
theorem ag_list (ws : List Cond) (ps : List Nat) (hp : ws = ps.filterMap (fun i => lw_tbl[i]?)) (h : ws.all goodWord = true) : ∀ w ∈ ws, w ∈ AG := fun w hw => List.mem_filter.mpr ⟨(goodIn_r ws ps hp h w hw).1, List.all_eq_true.mp h w hw⟩
set_option maxRecDepth 20000 in
theorem in_X0 : ∀ w ∈ u_ws RX0 TX0 2, w ∈ AG := ag_list _ [97, 99] (by decide +kernel) (by decide +kernel)
set_option maxRecDepth 20000 in
theorem in_X1 : ∀ w ∈ u_ws RX1 TX1 4, w ∈ AG := ag_list _ [80, 82, 84, 86] (by decide +kernel) (by decide +kernel)
set_option maxRecDepth 20000 in
theorem in_X2 : ∀ w ∈ u_ws RX2 TX2 1, w ∈ AG := ag_list _ [117] (by decide +kernel) (by decide +kernel)
set_option maxRecDepth 20000 in
theorem in_X3 : ∀ w ∈ u_ws RX3 TX3 9, w ∈ AG := ag_list _ [130, 132, 134, 136, 138, 140, 142, 144, 146] (by decide +kernel) (by decide +kernel)
set_option maxRecDepth 20000 in
theorem in_X4 : ∀ w ∈ u_ws RX4 TX4 9, w ∈ AG := ag_list _ [165, 167, 169, 171, 173, 175, 177, 179, 181] (by decide +kernel) (by decide +kernel)
set_option maxRecDepth 20000 in
theorem in_X5 : ∀ w ∈ u_ws RX5 TX5 10, w ∈ AG := ag_list _ [207, 209, 211, 213, 215, 217, 219, 221, 223, 225] (by decide +kernel) (by decide +kernel)
set_option maxRecDepth 20000 in
theorem in_X6 : ∀ w ∈ u_ws RX6 TX6 26, w ∈ AG := ag_list _ [846, 848, 850, 852, 854, 856, 858, 860, 862, 864, 866, 868, 870, 872, 874, 876, 878, 880, 882, 884, 886, 888, 890, 892, 894, 896] (by decide +kernel) (by decide +kernel)
end
section
def Q0_0 : List Cond := [Cond.selects RX5 yX5_begin yX5_begin, Cond.selects RX5 yX5_select yX5_select, Cond.selects RX5 yX5_serverOrNull yX5_serverOrNull, Cond.selects RX5 yX5_roomOrNull yX5_roomOrNull, Cond.selects RX3 yX3_tryLowEnd yX3_tryLowEnd, Cond.selects RX3 yX3_intervalsWith yX3_intervalsWith, Cond.selects RX3 yX3_leastUpperEnd yX3_leastUpperEnd, Cond.selects RX3 yX3_widestSpread yX3_widestSpread, Cond.selects RX3 yX3_spread yX3_spread, Cond.selects RX3 yX3_leastJitter yX3_leastJitter, Cond.selects RX3 yX3_isBetter yX3_isBetter, Cond.selects "java/lang/Throwable" ⟨"java/lang/Throwable", "fillInStackTrace", "(I)Ljava/lang/Throwable;"⟩ ⟨"java/lang/Throwable", "fillInStackTrace", "(I)Ljava/lang/Throwable;"⟩, Cond.selects RX5 yX5_isBeyondLastTrueTime yX5_isBeyondLastTrueTime, Cond.selects RX5 yX5_elapse yX5_elapse, Cond.selects RX5 yX5_knownServer yX5_knownServer, Cond.selects RX5 yX5_takeSample yX5_takeSample]
def Q0_1 : List Cond := [Cond.selects RX4 yX4_leastDelay yX4_leastDelay, Cond.selects RX5 yX5_heardServer yX5_heardServer, Cond.selects RX5 yX5_selectFromSome yX5_selectFromSome, Cond.selects RX3 yX3_weight yX3_weight, Cond.selects RX5 yX5_correctRate yX5_correctRate, Cond.selects RX5 yX5_correctTime yX5_correctTime, Cond.selects RX5 yX5_takeStratumOfPeer yX5_takeStratumOfPeer, Cond.selects RX5 yX5_forgetSamples yX5_forgetSamples, Cond.selects RX6 yX6_refused yX6_refused, Cond.selects RX6 yX6_goOn yX6_goOn, Cond.selects RX6 yX6_reading yX6_reading, Cond.selects RX6 yX6_fineLong yX6_fineLong, Cond.selects RX6 yX6_fine yX6_fine, Cond.selects RX6 yX6_isServer yX6_isServer, Cond.selects RX6 yX6_keep yX6_keep, Cond.selects RX6 yX6_noSample yX6_noSample]
def Q0_2 : List Cond := [Cond.selects RX6 yX6_best yX6_best, Cond.selects RX6 yX6_jitterOf yX6_jitterOf, Cond.selects RX6 yX6_distanceOf yX6_distanceOf, Cond.selects RX6 yX6_intersect yX6_intersect, Cond.selects RX6 yX6_from yX6_from, Cond.selects RX6 yX6_covers yX6_covers, Cond.selects RX6 yX6_has yX6_has, Cond.selects RX6 yX6_to yX6_to, Cond.selects RX6 yX6_select yX6_select, Cond.selects RX6 yX6_surviving yX6_surviving, Cond.selects RX6 yX6_removes yX6_removes, Cond.selects RX6 yX6_spread yX6_spread, Cond.selects RX6 yX6_combined yX6_combined, Cond.selects RX6 yX6_leader yX6_leader]
set_option maxRecDepth 100000 in
theorem Qe0 : k2_sels lw_privs = Q0_0 ++ (Q0_1 ++ (Q0_2)) := rfl
theorem Q0_0i {w : Cond} (h : w ∈ Q0_0) : w ∈ lw_tbl := List.mem_append_left _ (by rw [Qe0]; exact List.mem_append_left _ h)
theorem Q0_1i {w : Cond} (h : w ∈ Q0_1) : w ∈ lw_tbl := List.mem_append_left _ (by rw [Qe0]; exact List.mem_append_right _ (List.mem_append_left _ h))
theorem Q0_2i {w : Cond} (h : w ∈ Q0_2) : w ∈ lw_tbl := List.mem_append_left _ (by rw [Qe0]; exact List.mem_append_right _ (List.mem_append_right _ (h)))
def Q1_0 : List Cond := [Cond.initialized RL, Cond.initialized RX5, Cond.initialized RX1, Cond.initialized RX0, Cond.initialized RX3, Cond.initialized RX2, Cond.initialized RX4, Cond.initialized RX6, Cond.initialized "java/lang/Throwable", Cond.initialized "java/lang/Exception", Cond.initialized "java/lang/RuntimeException", Cond.initialized "java/lang/IllegalArgumentException", Cond.initialized "java/lang/IllegalStateException", Cond.initialized RJ9, Cond.initialized "java/lang/IndexOutOfBoundsException", Cond.initialized RJ6]
def Q1_1 : List Cond := [Cond.classLink RL 8 RX5, Cond.instantiable RX5 10, Cond.methodLink RL 72 yX5_init, Cond.instanceMethod yX5_init, Cond.code yX5_init cX5_init 2 none, Cond.methodLink RX5 1 objectInit, Cond.instanceMethod objectInit, Cond.code objectInit ⟨#[0xb1]⟩ 1 none, Cond.classLink RX5 7 RX1, Cond.instantiable RX1 4, Cond.methodLinkNest RX5 9 yX1_init "Clockhouse", Cond.instanceMethod yX1_init, Cond.code yX1_init cX1_init 1 none, Cond.methodLink RX1 3 objectInit, Cond.fieldLink RX1 11 "Clockhouse$Oscillator" "picos" "J", Cond.fieldLink RX1 17 "Clockhouse$Oscillator" "pendingPicos" "J"]
def Q1_2 : List Cond := [Cond.fieldLink RX1 20 "Clockhouse$Oscillator" "driftRate" "I", Cond.fieldLink RX1 24 "Clockhouse$Oscillator" "correctionRate" "I", Cond.lays "Clockhouse$Oscillator" "Clockhouse$Oscillator" "picos" "J", Cond.soleField "Clockhouse$Oscillator" "picos", Cond.lays "Clockhouse$Oscillator" "Clockhouse$Oscillator" "pendingPicos" "J", Cond.soleField "Clockhouse$Oscillator" "pendingPicos", Cond.lays "Clockhouse$Oscillator" "Clockhouse$Oscillator" "driftRate" "I", Cond.soleField "Clockhouse$Oscillator" "driftRate", Cond.lays "Clockhouse$Oscillator" "Clockhouse$Oscillator" "correctionRate" "I", Cond.soleField "Clockhouse$Oscillator" "correctionRate", Cond.superclass "Clockhouse$Oscillator" "java/lang/Object", Cond.classLink RX5 16 RX0, Cond.instantiable RX0 2, Cond.methodLinkNest RX5 18 yX0_init "Clockhouse", Cond.instanceMethod yX0_init, Cond.code yX0_init cX0_init 1 none]
def Q1_3 : List Cond := [Cond.methodLink RX0 1 objectInit, Cond.fieldLink RX0 13 "Clockhouse$LeapSeconds" "inserted" "I", Cond.fieldLink RX0 17 "Clockhouse$LeapSeconds" "deleted" "I", Cond.lays "Clockhouse$LeapSeconds" "Clockhouse$LeapSeconds" "inserted" "I", Cond.soleField "Clockhouse$LeapSeconds" "inserted", Cond.lays "Clockhouse$LeapSeconds" "Clockhouse$LeapSeconds" "deleted" "I", Cond.soleField "Clockhouse$LeapSeconds" "deleted", Cond.superclass "Clockhouse$LeapSeconds" "java/lang/Object", Cond.classLink RX5 23 RX4, Cond.arrayOver (.object "Clockhouse$Server"), Cond.classLink RX5 29 RX3, Cond.instantiable RX3 9, Cond.methodLinkNest RX5 31 yX3_init "Clockhouse", Cond.instanceMethod yX3_init, Cond.code yX3_init cX3_init 1 none, Cond.methodLink RX3 3 objectInit]
def Q1_4 : List Cond := [Cond.classLink RX3 9 RX2, Cond.instantiable RX2 1, Cond.methodLinkNest RX3 11 yX2_init "Clockhouse", Cond.instanceMethod yX2_init, Cond.code yX2_init cX2_init 1 none, Cond.methodLink RX2 1 objectInit, Cond.fieldLink RX2 9 "Clockhouse$Row" "cells" "[J", Cond.laysFinal "Clockhouse$Row" "Clockhouse$Row" "cells" "[J", Cond.soleField "Clockhouse$Row" "cells", Cond.superclass "Clockhouse$Row" "java/lang/Object", Cond.arrayClass .long, Cond.fieldLink RX3 12 "Clockhouse$Selection" "offsets" "LClockhouse$Row;", Cond.fieldLink RX3 18 "Clockhouse$Selection" "distances" "LClockhouse$Row;", Cond.fieldLink RX3 21 "Clockhouse$Selection" "jitters" "LClockhouse$Row;", Cond.fieldLink RX3 24 "Clockhouse$Selection" "strata" "LClockhouse$Row;", Cond.fieldLink RX3 27 "Clockhouse$Selection" "candidateSet" "I"]
def Q1_5 : List Cond := [Cond.fieldLink RX3 31 "Clockhouse$Selection" "agreeingSet" "I", Cond.fieldLink RX3 34 "Clockhouse$Selection" "survivorSet" "I", Cond.fieldLink RX3 37 "Clockhouse$Selection" "lowest" "J", Cond.fieldLink RX3 41 "Clockhouse$Selection" "highest" "J", Cond.laysFinal "Clockhouse$Selection" "Clockhouse$Selection" "offsets" "LClockhouse$Row;", Cond.soleField "Clockhouse$Selection" "offsets", Cond.laysFinal "Clockhouse$Selection" "Clockhouse$Selection" "distances" "LClockhouse$Row;", Cond.soleField "Clockhouse$Selection" "distances", Cond.laysFinal "Clockhouse$Selection" "Clockhouse$Selection" "jitters" "LClockhouse$Row;", Cond.soleField "Clockhouse$Selection" "jitters", Cond.laysFinal "Clockhouse$Selection" "Clockhouse$Selection" "strata" "LClockhouse$Row;", Cond.soleField "Clockhouse$Selection" "strata", Cond.lays "Clockhouse$Selection" "Clockhouse$Selection" "candidateSet" "I", Cond.soleField "Clockhouse$Selection" "candidateSet", Cond.lays "Clockhouse$Selection" "Clockhouse$Selection" "agreeingSet" "I", Cond.soleField "Clockhouse$Selection" "agreeingSet"]
def Q1_6 : List Cond := [Cond.lays "Clockhouse$Selection" "Clockhouse$Selection" "survivorSet" "I", Cond.soleField "Clockhouse$Selection" "survivorSet", Cond.lays "Clockhouse$Selection" "Clockhouse$Selection" "lowest" "J", Cond.soleField "Clockhouse$Selection" "lowest", Cond.lays "Clockhouse$Selection" "Clockhouse$Selection" "highest" "J", Cond.soleField "Clockhouse$Selection" "highest", Cond.superclass "Clockhouse$Selection" "java/lang/Object", Cond.instantiable RX4 9, Cond.methodLinkNest RX5 36 yX4_init "Clockhouse", Cond.instanceMethod yX4_init, Cond.code yX4_init cX4_init 1 none, Cond.methodLink RX4 3 objectInit, Cond.classLink RX4 9 RX2, Cond.methodLinkNest RX4 11 yX2_init "Clockhouse", Cond.fieldLink RX4 12 "Clockhouse$Server" "offsets" "LClockhouse$Row;", Cond.fieldLink RX4 18 "Clockhouse$Server" "delays" "LClockhouse$Row;"]
def Q1_7 : List Cond := [Cond.fieldLink RX4 21 "Clockhouse$Server" "times" "LClockhouse$Row;", Cond.fieldLink RX4 41 "Clockhouse$Server" "count" "I", Cond.fieldLink RX4 44 "Clockhouse$Server" "best" "I", Cond.fieldLink RX4 24 "Clockhouse$Server" "level" "I", Cond.fieldLink RX4 28 "Clockhouse$Server" "clockError" "I", Cond.fieldLink RX4 31 "Clockhouse$Server" "rootDelay" "J", Cond.fieldLink RX4 35 "Clockhouse$Server" "rootDispersion" "J", Cond.laysFinal "Clockhouse$Server" "Clockhouse$Server" "offsets" "LClockhouse$Row;", Cond.soleField "Clockhouse$Server" "offsets", Cond.laysFinal "Clockhouse$Server" "Clockhouse$Server" "delays" "LClockhouse$Row;", Cond.soleField "Clockhouse$Server" "delays", Cond.laysFinal "Clockhouse$Server" "Clockhouse$Server" "times" "LClockhouse$Row;", Cond.soleField "Clockhouse$Server" "times", Cond.lays "Clockhouse$Server" "Clockhouse$Server" "count" "I", Cond.soleField "Clockhouse$Server" "count", Cond.lays "Clockhouse$Server" "Clockhouse$Server" "best" "I"]
def Q1_8 : List Cond := [Cond.soleField "Clockhouse$Server" "best", Cond.lays "Clockhouse$Server" "Clockhouse$Server" "level" "I", Cond.soleField "Clockhouse$Server" "level", Cond.lays "Clockhouse$Server" "Clockhouse$Server" "clockError" "I", Cond.soleField "Clockhouse$Server" "clockError", Cond.lays "Clockhouse$Server" "Clockhouse$Server" "rootDelay" "J", Cond.soleField "Clockhouse$Server" "rootDelay", Cond.lays "Clockhouse$Server" "Clockhouse$Server" "rootDispersion" "J", Cond.soleField "Clockhouse$Server" "rootDispersion", Cond.superclass "Clockhouse$Server" "java/lang/Object", Cond.methodLink RX5 37 yX5_begin, Cond.privateMethod yX5_begin, Cond.instanceMethod yX5_begin, Cond.code yX5_begin cX5_begin 2 none, Cond.methodLink RX5 199 yX1_begin, Cond.instanceMethod yX1_begin]
def Q1_9 : List Cond := [Cond.selects RX1 yX1_begin yX1_begin, Cond.code yX1_begin cX1_begin 2 none, Cond.constantLong RX1 9 (1000000), Cond.methodLink RX5 200 yX0_clear, Cond.instanceMethod yX0_clear, Cond.selects RX0 yX0_clear yX0_clear, Cond.code yX0_clear cX0_clear 1 none, Cond.fieldLink RX5 10 "Clockhouse" "oscillator" "LClockhouse$Oscillator;", Cond.fieldLink RX5 19 "Clockhouse" "leapSeconds" "LClockhouse$LeapSeconds;", Cond.fieldLink RX5 25 "Clockhouse" "rooms" "[LClockhouse$Server;", Cond.fieldLink RX5 32 "Clockhouse" "selection" "LClockhouse$Selection;", Cond.fieldLink RX5 99 "Clockhouse" "serverCount" "I", Cond.fieldLink RX5 68 "Clockhouse" "truth" "J", Cond.fieldLink RX5 192 "Clockhouse" "clientStratum" "I", Cond.fieldLink RX5 195 "Clockhouse" "stepCount" "I", Cond.fieldLink RX5 189 "Clockhouse" "synchronizationCount" "I"]
def Q1_10 : List Cond := [Cond.fieldLink RX5 186 "Clockhouse" "readingBehindSynchronization" "J", Cond.laysFinal "Clockhouse" "Clockhouse" "oscillator" "LClockhouse$Oscillator;", Cond.soleField "Clockhouse" "oscillator", Cond.laysFinal "Clockhouse" "Clockhouse" "leapSeconds" "LClockhouse$LeapSeconds;", Cond.soleField "Clockhouse" "leapSeconds", Cond.laysFinal "Clockhouse" "Clockhouse" "rooms" "[LClockhouse$Server;", Cond.soleField "Clockhouse" "rooms", Cond.laysFinal "Clockhouse" "Clockhouse" "selection" "LClockhouse$Selection;", Cond.soleField "Clockhouse" "selection", Cond.lays "Clockhouse" "Clockhouse" "serverCount" "I", Cond.soleField "Clockhouse" "serverCount", Cond.lays "Clockhouse" "Clockhouse" "truth" "J", Cond.soleField "Clockhouse" "truth", Cond.lays "Clockhouse" "Clockhouse" "clientStratum" "I", Cond.soleField "Clockhouse" "clientStratum", Cond.lays "Clockhouse" "Clockhouse" "stepCount" "I"]
def Q1_11 : List Cond := [Cond.soleField "Clockhouse" "stepCount", Cond.lays "Clockhouse" "Clockhouse" "synchronizationCount" "I", Cond.soleField "Clockhouse" "synchronizationCount", Cond.lays "Clockhouse" "Clockhouse" "readingBehindSynchronization" "J", Cond.soleField "Clockhouse" "readingBehindSynchronization", Cond.superclass "Clockhouse" "java/lang/Object", Cond.methodLink RL 92 yX5_trueTime, Cond.instanceMethod yX5_trueTime, Cond.selects RX5 yX5_trueTime yX5_trueTime, Cond.code yX5_trueTime cX5_trueTime 1 (some .long), Cond.methodLink RL 96 yX5_clock, Cond.instanceMethod yX5_clock, Cond.selects RX5 yX5_clock yX5_clock, Cond.code yX5_clock cX5_clock 1 (some .long), Cond.methodLink RX5 60 yX1_reading, Cond.instanceMethod yX1_reading]
def Q1_12 : List Cond := [Cond.selects RX1 yX1_reading yX1_reading, Cond.code yX1_reading cX1_reading 1 (some .long), Cond.methodLink RX1 27 yJ9_floorDiv_f86c9, Cond.static yJ9_floorDiv_f86c9, Cond.code yJ9_floorDiv_f86c9 cJ9_floorDiv_f86c9 6 (some .long), Cond.methodLink RL 100 yX5_error, Cond.instanceMethod yX5_error, Cond.selects RX5 yX5_error yX5_error, Cond.code yX5_error cX5_error 1 (some .long), Cond.methodLink RL 104 yX5_pendingSlew, Cond.instanceMethod yX5_pendingSlew, Cond.selects RX5 yX5_pendingSlew yX5_pendingSlew, Cond.code yX5_pendingSlew cX5_pendingSlew 1 (some .long), Cond.methodLink RX5 72 yX1_pendingMicros, Cond.instanceMethod yX1_pendingMicros, Cond.selects RX1 yX1_pendingMicros yX1_pendingMicros]
def Q1_13 : List Cond := [Cond.code yX1_pendingMicros cX1_pendingMicros 1 (some .long), Cond.methodLink RL 108 yX5_correction, Cond.instanceMethod yX5_correction, Cond.selects RX5 yX5_correction yX5_correction, Cond.code yX5_correction cX5_correction 1 (some .int), Cond.methodLink RX5 75 yX1_presentCorrection, Cond.instanceMethod yX1_presentCorrection, Cond.selects RX1 yX1_presentCorrection yX1_presentCorrection, Cond.code yX1_presentCorrection cX1_presentCorrection 1 (some .int), Cond.methodLink RL 116 yX5_civil, Cond.instanceMethod yX5_civil, Cond.selects RX5 yX5_civil yX5_civil, Cond.code yX5_civil cX5_civil 1 (some .long), Cond.methodLink RX5 91 yX0_civilTime, Cond.instanceMethod yX0_civilTime, Cond.selects RX0 yX0_civilTime yX0_civilTime]
def Q1_14 : List Cond := [Cond.code yX0_civilTime cX0_civilTime 6 (some .long), Cond.methodLink RX0 20 yX0_contains, Cond.static yX0_contains, Cond.code yX0_contains cX0_contains 2 (some .boolean), Cond.methodLink RX0 24 yX0_partCome, Cond.static yX0_partCome, Cond.code yX0_partCome cX0_partCome 5 (some .long), Cond.methodLink RX0 28 yX0_smearBeginning, Cond.static yX0_smearBeginning, Cond.code yX0_smearBeginning cX0_smearBeginning 1 (some .long), Cond.constantLong RX0 9 (86400000000), Cond.constantLong RX0 11 (20000000000), Cond.constantLong RX0 32 (20000), Cond.constantLong RX0 34 (1000000), Cond.methodLink RL 131 yX5_servers, Cond.instanceMethod yX5_servers]
set_option maxRecDepth 100000 in
theorem Qe1 : tables_1_1 = Q1_0 ++ (Q1_1 ++ (Q1_2 ++ (Q1_3 ++ (Q1_4 ++ (Q1_5 ++ (Q1_6 ++ (Q1_7 ++ (Q1_8 ++ (Q1_9 ++ (Q1_10 ++ (Q1_11 ++ (Q1_12 ++ (Q1_13 ++ (Q1_14)))))))))))))) := rfl
theorem Q1_0i {w : Cond} (h : w ∈ Q1_0) : w ∈ lw_tbl := List.mem_append_right _ (List.mem_append_left _ (by rw [Qe1]; exact List.mem_append_left _ h))
theorem Q1_1i {w : Cond} (h : w ∈ Q1_1) : w ∈ lw_tbl := List.mem_append_right _ (List.mem_append_left _ (by rw [Qe1]; exact List.mem_append_right _ (List.mem_append_left _ h)))
theorem Q1_2i {w : Cond} (h : w ∈ Q1_2) : w ∈ lw_tbl := List.mem_append_right _ (List.mem_append_left _ (by rw [Qe1]; exact List.mem_append_right _ (List.mem_append_right _ (List.mem_append_left _ h))))
theorem Q1_3i {w : Cond} (h : w ∈ Q1_3) : w ∈ lw_tbl := List.mem_append_right _ (List.mem_append_left _ (by rw [Qe1]; exact List.mem_append_right _ (List.mem_append_right _ (List.mem_append_right _ (List.mem_append_left _ h)))))
theorem Q1_4i {w : Cond} (h : w ∈ Q1_4) : w ∈ lw_tbl := List.mem_append_right _ (List.mem_append_left _ (by rw [Qe1]; exact List.mem_append_right _ (List.mem_append_right _ (List.mem_append_right _ (List.mem_append_right _ (List.mem_append_left _ h))))))
theorem Q1_5i {w : Cond} (h : w ∈ Q1_5) : w ∈ lw_tbl := List.mem_append_right _ (List.mem_append_left _ (by rw [Qe1]; exact List.mem_append_right _ (List.mem_append_right _ (List.mem_append_right _ (List.mem_append_right _ (List.mem_append_right _ (List.mem_append_left _ h)))))))
theorem Q1_6i {w : Cond} (h : w ∈ Q1_6) : w ∈ lw_tbl := List.mem_append_right _ (List.mem_append_left _ (by rw [Qe1]; exact List.mem_append_right _ (List.mem_append_right _ (List.mem_append_right _ (List.mem_append_right _ (List.mem_append_right _ (List.mem_append_right _ (List.mem_append_left _ h))))))))
theorem Q1_7i {w : Cond} (h : w ∈ Q1_7) : w ∈ lw_tbl := List.mem_append_right _ (List.mem_append_left _ (by rw [Qe1]; exact List.mem_append_right _ (List.mem_append_right _ (List.mem_append_right _ (List.mem_append_right _ (List.mem_append_right _ (List.mem_append_right _ (List.mem_append_right _ (List.mem_append_left _ h)))))))))
theorem Q1_8i {w : Cond} (h : w ∈ Q1_8) : w ∈ lw_tbl := List.mem_append_right _ (List.mem_append_left _ (by rw [Qe1]; exact List.mem_append_right _ (List.mem_append_right _ (List.mem_append_right _ (List.mem_append_right _ (List.mem_append_right _ (List.mem_append_right _ (List.mem_append_right _ (List.mem_append_right _ (List.mem_append_left _ h))))))))))
theorem Q1_9i {w : Cond} (h : w ∈ Q1_9) : w ∈ lw_tbl := List.mem_append_right _ (List.mem_append_left _ (by rw [Qe1]; exact List.mem_append_right _ (List.mem_append_right _ (List.mem_append_right _ (List.mem_append_right _ (List.mem_append_right _ (List.mem_append_right _ (List.mem_append_right _ (List.mem_append_right _ (List.mem_append_right _ (List.mem_append_left _ h)))))))))))
theorem Q1_10i {w : Cond} (h : w ∈ Q1_10) : w ∈ lw_tbl := List.mem_append_right _ (List.mem_append_left _ (by rw [Qe1]; exact List.mem_append_right _ (List.mem_append_right _ (List.mem_append_right _ (List.mem_append_right _ (List.mem_append_right _ (List.mem_append_right _ (List.mem_append_right _ (List.mem_append_right _ (List.mem_append_right _ (List.mem_append_right _ (List.mem_append_left _ h))))))))))))
theorem Q1_11i {w : Cond} (h : w ∈ Q1_11) : w ∈ lw_tbl := List.mem_append_right _ (List.mem_append_left _ (by rw [Qe1]; exact List.mem_append_right _ (List.mem_append_right _ (List.mem_append_right _ (List.mem_append_right _ (List.mem_append_right _ (List.mem_append_right _ (List.mem_append_right _ (List.mem_append_right _ (List.mem_append_right _ (List.mem_append_right _ (List.mem_append_right _ (List.mem_append_left _ h)))))))))))))
theorem Q1_12i {w : Cond} (h : w ∈ Q1_12) : w ∈ lw_tbl := List.mem_append_right _ (List.mem_append_left _ (by rw [Qe1]; exact List.mem_append_right _ (List.mem_append_right _ (List.mem_append_right _ (List.mem_append_right _ (List.mem_append_right _ (List.mem_append_right _ (List.mem_append_right _ (List.mem_append_right _ (List.mem_append_right _ (List.mem_append_right _ (List.mem_append_right _ (List.mem_append_right _ (List.mem_append_left _ h))))))))))))))
theorem Q1_13i {w : Cond} (h : w ∈ Q1_13) : w ∈ lw_tbl := List.mem_append_right _ (List.mem_append_left _ (by rw [Qe1]; exact List.mem_append_right _ (List.mem_append_right _ (List.mem_append_right _ (List.mem_append_right _ (List.mem_append_right _ (List.mem_append_right _ (List.mem_append_right _ (List.mem_append_right _ (List.mem_append_right _ (List.mem_append_right _ (List.mem_append_right _ (List.mem_append_right _ (List.mem_append_right _ (List.mem_append_left _ h)))))))))))))))
theorem Q1_14i {w : Cond} (h : w ∈ Q1_14) : w ∈ lw_tbl := List.mem_append_right _ (List.mem_append_left _ (by rw [Qe1]; exact List.mem_append_right _ (List.mem_append_right _ (List.mem_append_right _ (List.mem_append_right _ (List.mem_append_right _ (List.mem_append_right _ (List.mem_append_right _ (List.mem_append_right _ (List.mem_append_right _ (List.mem_append_right _ (List.mem_append_right _ (List.mem_append_right _ (List.mem_append_right _ (List.mem_append_right _ (h))))))))))))))))
def Q2_0 : List Cond := [Cond.selects RX5 yX5_servers yX5_servers, Cond.code yX5_servers cX5_servers 1 (some .int), Cond.methodLink RL 150 yX5_agreement, Cond.instanceMethod yX5_agreement, Cond.selects RX5 yX5_agreement yX5_agreement, Cond.code yX5_agreement cX5_agreement 1 (some .int), Cond.methodLink RX5 141 yX5_select, Cond.privateMethod yX5_select, Cond.instanceMethod yX5_select, Cond.code yX5_select cX5_select 5 none, Cond.methodLink RX5 230 yX3_clear, Cond.instanceMethod yX3_clear, Cond.selects RX3 yX3_clear yX3_clear, Cond.code yX3_clear cX3_clear 1 none, Cond.methodLink RX5 206 yX5_serverOrNull, Cond.privateMethod yX5_serverOrNull]
def Q2_1 : List Cond := [Cond.instanceMethod yX5_serverOrNull, Cond.code yX5_serverOrNull cX5_serverOrNull 2 (some (.object "Clockhouse$Server")), Cond.methodLink RX5 103 yX5_roomOrNull, Cond.privateMethod yX5_roomOrNull, Cond.instanceMethod yX5_roomOrNull, Cond.code yX5_roomOrNull cX5_roomOrNull 2 (some (.object "Clockhouse$Server")), Cond.methodLink RX5 123 yX4_kept, Cond.instanceMethod yX4_kept, Cond.selects RX4 yX4_kept yX4_kept, Cond.code yX4_kept cX4_kept 1 (some .int), Cond.methodLink RX5 231 yX3_enter, Cond.instanceMethod yX3_enter, Cond.selects RX3 yX3_enter yX3_enter, Cond.code yX3_enter cX3_enter 5 none, Cond.methodLink RX3 44 yX4_bestOffset, Cond.instanceMethod yX4_bestOffset]
def Q2_2 : List Cond := [Cond.selects RX4 yX4_bestOffset yX4_bestOffset, Cond.code yX4_bestOffset cX4_bestOffset 1 (some .long), Cond.methodLink RX4 61 yX2_get, Cond.instanceMethod yX2_get, Cond.selects RX2 yX2_get yX2_get, Cond.code yX2_get cX2_get 2 (some .long), Cond.methodLink RX3 50 yX2_put, Cond.instanceMethod yX2_put, Cond.selects RX2 yX2_put yX2_put, Cond.code yX2_put cX2_put 4 none, Cond.methodLink RX3 54 yX4_distanceAt, Cond.instanceMethod yX4_distanceAt, Cond.selects RX4 yX4_distanceAt yX4_distanceAt, Cond.code yX4_distanceAt cX4_distanceAt 5 (some .long), Cond.constantLong RX4 69 (2), Cond.methodLink RX4 71 yX4_bestDelay]
def Q2_3 : List Cond := [Cond.instanceMethod yX4_bestDelay, Cond.selects RX4 yX4_bestDelay yX4_bestDelay, Cond.code yX4_bestDelay cX4_bestDelay 1 (some .long), Cond.methodLink RX4 75 yX4_offsetJitter, Cond.instanceMethod yX4_offsetJitter, Cond.selects RX4 yX4_offsetJitter yX4_offsetJitter, Cond.code yX4_offsetJitter cX4_offsetJitter 6 (some .long), Cond.methodLink RX4 65 Lib.MathLoose.abs_long.x, Cond.static Lib.MathLoose.abs_long.x, Cond.code Lib.MathLoose.abs_long.x Lib.MathLoose.abs_long.code 2 (some .long), Cond.constantLong RX4 78 (15), Cond.constantLong RX4 80 (1000000), Cond.methodLink RX4 82 yJ9_floorDiv_f86c9, Cond.methodLink RX3 58 yX4_offsetJitter, Cond.methodLink RX3 61 yX4_ownStratum, Cond.instanceMethod yX4_ownStratum]
def Q2_4 : List Cond := [Cond.selects RX4 yX4_ownStratum yX4_ownStratum, Cond.code yX4_ownStratum cX4_ownStratum 1 (some .int), Cond.methodLink RX5 235 yX3_intersect, Cond.instanceMethod yX3_intersect, Cond.selects RX3 yX3_intersect yX3_intersect, Cond.code yX3_intersect cX3_intersect 2 none, Cond.methodLink RX3 74 yX3_contains, Cond.static yX3_contains, Cond.code yX3_contains cX3_contains 2 (some .boolean), Cond.methodLink RX3 78 yX2_get, Cond.methodLink RX3 82 yX3_tryLowEnd, Cond.privateMethod yX3_tryLowEnd, Cond.instanceMethod yX3_tryLowEnd, Cond.code yX3_tryLowEnd cX3_tryLowEnd 5 none, Cond.methodLink RX3 89 yX3_intervalsWith, Cond.privateMethod yX3_intervalsWith]
def Q2_5 : List Cond := [Cond.instanceMethod yX3_intervalsWith, Cond.code yX3_intervalsWith cX3_intervalsWith 5 (some .int), Cond.methodLink RX3 93 Lib.MathLoose.abs_long.x, Cond.methodLink RX3 68 yJ6_bitCount_0f7a4, Cond.static yJ6_bitCount_0f7a4, Cond.code yJ6_bitCount_0f7a4 cJ6_bitCount_0f7a4 1 (some .int), Cond.constant RJ6 265 (1431655765), Cond.constant RJ6 266 (858993459), Cond.constant RJ6 267 (252645135), Cond.methodLink RX3 86 yX3_leastUpperEnd, Cond.privateMethod yX3_leastUpperEnd, Cond.instanceMethod yX3_leastUpperEnd, Cond.code yX3_leastUpperEnd cX3_leastUpperEnd 7 (some .long), Cond.methodLink RX5 238 yX3_cluster, Cond.instanceMethod yX3_cluster, Cond.selects RX3 yX3_cluster yX3_cluster]
def Q2_6 : List Cond := [Cond.code yX3_cluster cX3_cluster 3 none, Cond.methodLink RX3 98 yX3_widestSpread, Cond.privateMethod yX3_widestSpread, Cond.instanceMethod yX3_widestSpread, Cond.code yX3_widestSpread cX3_widestSpread 3 (some .int), Cond.methodLink RX3 101 yX3_spread, Cond.privateMethod yX3_spread, Cond.instanceMethod yX3_spread, Cond.code yX3_spread cX3_spread 6 (some .long), Cond.methodLink RX3 104 yX3_leastJitter, Cond.privateMethod yX3_leastJitter, Cond.instanceMethod yX3_leastJitter, Cond.code yX3_leastJitter cX3_leastJitter 5 (some .long), Cond.methodLink RX5 144 yX3_agreed, Cond.instanceMethod yX3_agreed, Cond.selects RX3 yX3_agreed yX3_agreed]
def Q2_7 : List Cond := [Cond.code yX3_agreed cX3_agreed 1 (some .int), Cond.methodLink RL 154 yX5_hasMajority, Cond.instanceMethod yX5_hasMajority, Cond.selects RX5 yX5_hasMajority yX5_hasMajority, Cond.code yX5_hasMajority cX5_hasMajority 1 (some .boolean), Cond.methodLink RX5 147 yX3_isMajority, Cond.instanceMethod yX3_isMajority, Cond.selects RX3 yX3_isMajority yX3_isMajority, Cond.code yX3_isMajority cX3_isMajority 1 (some .boolean), Cond.methodLink RX3 65 yX3_agreed, Cond.methodLink RL 159 yX5_agreeing, Cond.instanceMethod yX5_agreeing, Cond.selects RX5 yX5_agreeing yX5_agreeing, Cond.code yX5_agreeing cX5_agreeing 1 (some .int), Cond.methodLink RX5 151 yX3_agreeingBits, Cond.instanceMethod yX3_agreeingBits]
def Q2_8 : List Cond := [Cond.selects RX3 yX3_agreeingBits yX3_agreeingBits, Cond.code yX3_agreeingBits cX3_agreeingBits 1 (some .int), Cond.methodLink RL 170 yX5_survivors, Cond.instanceMethod yX5_survivors, Cond.selects RX5 yX5_survivors yX5_survivors, Cond.code yX5_survivors cX5_survivors 1 (some .int), Cond.methodLink RX5 163 yX3_survivorBits, Cond.instanceMethod yX3_survivorBits, Cond.selects RX3 yX3_survivorBits yX3_survivorBits, Cond.code yX3_survivorBits cX3_survivorBits 1 (some .int), Cond.methodLink RL 177 yX5_peer, Cond.instanceMethod yX5_peer, Cond.selects RX5 yX5_peer yX5_peer, Cond.code yX5_peer cX5_peer 1 (some .int), Cond.methodLink RX5 169 yX3_preferred, Cond.instanceMethod yX3_preferred]
def Q2_9 : List Cond := [Cond.selects RX3 yX3_preferred yX3_preferred, Cond.code yX3_preferred cX3_preferred 3 (some .int), Cond.methodLink RX3 119 yX3_isBetter, Cond.privateMethod yX3_isBetter, Cond.instanceMethod yX3_isBetter, Cond.code yX3_isBetter cX3_isBetter 3 (some .boolean), Cond.methodLink RL 184 yX5_stratum, Cond.instanceMethod yX5_stratum, Cond.selects RX5 yX5_stratum yX5_stratum, Cond.code yX5_stratum cX5_stratum 1 (some .int), Cond.methodLink RL 188 yX5_steps, Cond.instanceMethod yX5_steps, Cond.selects RX5 yX5_steps yX5_steps, Cond.code yX5_steps cX5_steps 1 (some .int), Cond.methodLink RL 192 yX5_synchronizations, Cond.instanceMethod yX5_synchronizations]
def Q2_10 : List Cond := [Cond.selects RX5 yX5_synchronizations yX5_synchronizations, Cond.code yX5_synchronizations cX5_synchronizations 1 (some .int), Cond.methodLink RL 76 yL_restart, Cond.static yL_restart, Cond.codeWith yL_restart cL_restart 3 (some .int) [(0, 5, 8, 13)], Cond.classLink RL 13 "java/lang/IllegalArgumentException", Cond.methodLink RL 7 yX5_restart, Cond.instanceMethod yX5_restart, Cond.selects RX5 yX5_restart yX5_restart, Cond.code yX5_restart cX5_restart 2 none, Cond.constant RX5 41 (-1000000000), Cond.constant RX5 42 (1000000000), Cond.methodLink RX5 43 yX5_isWithin, Cond.static yX5_isWithin, Cond.code yX5_isWithin cX5_isWithin 3 (some .boolean), Cond.classLink RX5 47 "java/lang/IllegalArgumentException"]
def Q2_11 : List Cond := [Cond.instantiable "java/lang/IllegalArgumentException" 6, Cond.castable "java/lang/IllegalArgumentException" "java/lang/IllegalArgumentException", Cond.declares ⟨"java/lang/RuntimeException", "<init>", "()V"⟩, Cond.declares ⟨"java/lang/RuntimeException", "<init>", "(Ljava/lang/String;)V"⟩, Cond.declares ⟨"java/lang/Exception", "<init>", "()V"⟩, Cond.declares ⟨"java/lang/Exception", "<init>", "(Ljava/lang/String;)V"⟩, Cond.declares ⟨"java/lang/Throwable", "<init>", "()V"⟩, Cond.declares ⟨"java/lang/Throwable", "<init>", "(Ljava/lang/String;)V"⟩, Cond.selects "java/lang/IllegalArgumentException" ⟨"java/lang/Throwable", "fillInStackTrace", "(I)Ljava/lang/Throwable;"⟩ ⟨"java/lang/Throwable", "fillInStackTrace", "(I)Ljava/lang/Throwable;"⟩, Cond.selects "java/lang/IllegalArgumentException" ⟨"java/lang/Throwable", "fillInStackTrace", "()Ljava/lang/Throwable;"⟩ ⟨"java/lang/Throwable", "fillInStackTrace", "()Ljava/lang/Throwable;"⟩, Cond.lays "java/lang/IllegalArgumentException" "java/lang/Throwable" "cause" "Ljava/lang/Throwable;", Cond.lays "java/lang/Throwable" "java/lang/Throwable" "cause" "Ljava/lang/Throwable;", Cond.lays "java/lang/IllegalArgumentException" "java/lang/Throwable" "stackTrace" "[Ljava/lang/StackTraceElement;", Cond.lays "java/lang/Throwable" "java/lang/Throwable" "stackTrace" "[Ljava/lang/StackTraceElement;", Cond.lays "java/lang/IllegalArgumentException" "java/lang/Throwable" "suppressedExceptions" "Ljava/util/List;", Cond.lays "java/lang/Throwable" "java/lang/Throwable" "suppressedExceptions" "Ljava/util/List;"]
def Q2_12 : List Cond := [Cond.lays "java/lang/IllegalArgumentException" "java/lang/Throwable" "detailMessage" "Ljava/lang/String;", Cond.lays "java/lang/Throwable" "java/lang/Throwable" "detailMessage" "Ljava/lang/String;", Cond.lays "java/lang/IllegalArgumentException" "java/lang/Throwable" "backtrace" "Ljava/lang/Object;", Cond.lays "java/lang/Throwable" "java/lang/Throwable" "backtrace" "Ljava/lang/Object;", Cond.fieldLink "java/lang/Throwable" 198 "java/lang/Throwable" "backtrace" "Ljava/lang/Object;", Cond.superclass "java/lang/Throwable" "java/lang/Object", Cond.instanceMethod ⟨"java/lang/Throwable", "<init>", "()V"⟩, Cond.code ⟨"java/lang/Throwable", "<init>", "()V"⟩ prog_16_method_1_code 1 none, Cond.methodLink "java/lang/Throwable" 1 objectInit, Cond.fieldLink "java/lang/Throwable" 13 "java/lang/Throwable" "UNASSIGNED_STACK" "[Ljava/lang/StackTraceElement;", Cond.laysStatic "java/lang/Throwable" "UNASSIGNED_STACK" "[Ljava/lang/StackTraceElement;", Cond.fieldLink "java/lang/Throwable" 20 "java/lang/Throwable" "SUPPRESSED_SENTINEL" "Ljava/util/List;", Cond.laysStatic "java/lang/Throwable" "SUPPRESSED_SENTINEL" "Ljava/util/List;", Cond.methodLink "java/lang/Throwable" 27 ⟨"java/lang/Throwable", "fillInStackTrace", "()Ljava/lang/Throwable;"⟩, Cond.instanceMethod ⟨"java/lang/Throwable", "fillInStackTrace", "()Ljava/lang/Throwable;"⟩, Cond.sameMethod "java/lang/Throwable" "java/lang/Throwable" "fillInStackTrace" "()Ljava/lang/Throwable;"]
def Q2_13 : List Cond := [Cond.selects "java/lang/IllegalStateException" ⟨"java/lang/Throwable", "fillInStackTrace", "()Ljava/lang/Throwable;"⟩ ⟨"java/lang/Throwable", "fillInStackTrace", "()Ljava/lang/Throwable;"⟩, Cond.selects "java/lang/IndexOutOfBoundsException" ⟨"java/lang/Throwable", "fillInStackTrace", "()Ljava/lang/Throwable;"⟩ ⟨"java/lang/Throwable", "fillInStackTrace", "()Ljava/lang/Throwable;"⟩, Cond.codeSync ⟨"java/lang/Throwable", "fillInStackTrace", "()Ljava/lang/Throwable;"⟩ prog_16_method_18_code 1 (some (.object "java/lang/Throwable")), Cond.methodLink "java/lang/Throwable" 202 ⟨"java/lang/Throwable", "fillInStackTrace", "(I)Ljava/lang/Throwable;"⟩, Cond.privateMethod ⟨"java/lang/Throwable", "fillInStackTrace", "(I)Ljava/lang/Throwable;"⟩, Cond.instanceMethod ⟨"java/lang/Throwable", "fillInStackTrace", "(I)Ljava/lang/Throwable;"⟩, Cond.instantiable "java/lang/Throwable" 6, Cond.native ⟨"java/lang/Throwable", "fillInStackTrace", "(I)Ljava/lang/Throwable;"⟩, Cond.methodLink RX5 49 ⟨"java/lang/IllegalArgumentException", "<init>", "()V"⟩, Cond.instanceMethod ⟨"java/lang/IllegalArgumentException", "<init>", "()V"⟩, Cond.code ⟨"java/lang/IllegalArgumentException", "<init>", "()V"⟩ prog_10_method_1_code 1 none, Cond.methodLink "java/lang/IllegalArgumentException" 1 ⟨"java/lang/RuntimeException", "<init>", "()V"⟩, Cond.instanceMethod ⟨"java/lang/RuntimeException", "<init>", "()V"⟩, Cond.code ⟨"java/lang/RuntimeException", "<init>", "()V"⟩ prog_15_method_1_code 1 none, Cond.methodLink "java/lang/RuntimeException" 1 ⟨"java/lang/Exception", "<init>", "()V"⟩, Cond.instanceMethod ⟨"java/lang/Exception", "<init>", "()V"⟩]
def Q2_14 : List Cond := [Cond.code ⟨"java/lang/Exception", "<init>", "()V"⟩ prog_9_method_1_code 1 none, Cond.methodLink "java/lang/Exception" 1 ⟨"java/lang/Throwable", "<init>", "()V"⟩, Cond.fieldLink "java/lang/Throwable" 198 "java/lang/Throwable" "backtrace" "Ljava/lang/Object;", Cond.fieldLink "java/lang/Throwable" 7 "java/lang/Throwable" "cause" "Ljava/lang/Throwable;", Cond.fieldLink "java/lang/Throwable" 17 "java/lang/Throwable" "stackTrace" "[Ljava/lang/StackTraceElement;", Cond.fieldLink "java/lang/Throwable" 24 "java/lang/Throwable" "suppressedExceptions" "Ljava/util/List;", Cond.soleField "java/lang/Throwable" "backtrace", Cond.soleField "java/lang/Throwable" "detailMessage", Cond.soleField "java/lang/Throwable" "cause", Cond.soleField "java/lang/Throwable" "stackTrace", Cond.lays "java/lang/IllegalArgumentException" "java/lang/Throwable" "depth" "I", Cond.soleField "java/lang/Throwable" "depth", Cond.soleField "java/lang/Throwable" "suppressedExceptions", Cond.superclass "java/lang/IllegalArgumentException" "java/lang/RuntimeException", Cond.methodLink RL 85 yL_pass, Cond.static yL_pass]
set_option maxRecDepth 100000 in
theorem Qe2 : tables_1_2 = Q2_0 ++ (Q2_1 ++ (Q2_2 ++ (Q2_3 ++ (Q2_4 ++ (Q2_5 ++ (Q2_6 ++ (Q2_7 ++ (Q2_8 ++ (Q2_9 ++ (Q2_10 ++ (Q2_11 ++ (Q2_12 ++ (Q2_13 ++ (Q2_14)))))))))))))) := rfl
theorem Q2_0i {w : Cond} (h : w ∈ Q2_0) : w ∈ lw_tbl := List.mem_append_right _ (List.mem_append_right _ (List.mem_append_left _ (by rw [Qe2]; exact List.mem_append_left _ h)))
theorem Q2_1i {w : Cond} (h : w ∈ Q2_1) : w ∈ lw_tbl := List.mem_append_right _ (List.mem_append_right _ (List.mem_append_left _ (by rw [Qe2]; exact List.mem_append_right _ (List.mem_append_left _ h))))
theorem Q2_2i {w : Cond} (h : w ∈ Q2_2) : w ∈ lw_tbl := List.mem_append_right _ (List.mem_append_right _ (List.mem_append_left _ (by rw [Qe2]; exact List.mem_append_right _ (List.mem_append_right _ (List.mem_append_left _ h)))))
theorem Q2_3i {w : Cond} (h : w ∈ Q2_3) : w ∈ lw_tbl := List.mem_append_right _ (List.mem_append_right _ (List.mem_append_left _ (by rw [Qe2]; exact List.mem_append_right _ (List.mem_append_right _ (List.mem_append_right _ (List.mem_append_left _ h))))))
theorem Q2_4i {w : Cond} (h : w ∈ Q2_4) : w ∈ lw_tbl := List.mem_append_right _ (List.mem_append_right _ (List.mem_append_left _ (by rw [Qe2]; exact List.mem_append_right _ (List.mem_append_right _ (List.mem_append_right _ (List.mem_append_right _ (List.mem_append_left _ h)))))))
theorem Q2_5i {w : Cond} (h : w ∈ Q2_5) : w ∈ lw_tbl := List.mem_append_right _ (List.mem_append_right _ (List.mem_append_left _ (by rw [Qe2]; exact List.mem_append_right _ (List.mem_append_right _ (List.mem_append_right _ (List.mem_append_right _ (List.mem_append_right _ (List.mem_append_left _ h))))))))
theorem Q2_6i {w : Cond} (h : w ∈ Q2_6) : w ∈ lw_tbl := List.mem_append_right _ (List.mem_append_right _ (List.mem_append_left _ (by rw [Qe2]; exact List.mem_append_right _ (List.mem_append_right _ (List.mem_append_right _ (List.mem_append_right _ (List.mem_append_right _ (List.mem_append_right _ (List.mem_append_left _ h)))))))))
theorem Q2_7i {w : Cond} (h : w ∈ Q2_7) : w ∈ lw_tbl := List.mem_append_right _ (List.mem_append_right _ (List.mem_append_left _ (by rw [Qe2]; exact List.mem_append_right _ (List.mem_append_right _ (List.mem_append_right _ (List.mem_append_right _ (List.mem_append_right _ (List.mem_append_right _ (List.mem_append_right _ (List.mem_append_left _ h))))))))))
theorem Q2_8i {w : Cond} (h : w ∈ Q2_8) : w ∈ lw_tbl := List.mem_append_right _ (List.mem_append_right _ (List.mem_append_left _ (by rw [Qe2]; exact List.mem_append_right _ (List.mem_append_right _ (List.mem_append_right _ (List.mem_append_right _ (List.mem_append_right _ (List.mem_append_right _ (List.mem_append_right _ (List.mem_append_right _ (List.mem_append_left _ h)))))))))))
theorem Q2_9i {w : Cond} (h : w ∈ Q2_9) : w ∈ lw_tbl := List.mem_append_right _ (List.mem_append_right _ (List.mem_append_left _ (by rw [Qe2]; exact List.mem_append_right _ (List.mem_append_right _ (List.mem_append_right _ (List.mem_append_right _ (List.mem_append_right _ (List.mem_append_right _ (List.mem_append_right _ (List.mem_append_right _ (List.mem_append_right _ (List.mem_append_left _ h))))))))))))
theorem Q2_10i {w : Cond} (h : w ∈ Q2_10) : w ∈ lw_tbl := List.mem_append_right _ (List.mem_append_right _ (List.mem_append_left _ (by rw [Qe2]; exact List.mem_append_right _ (List.mem_append_right _ (List.mem_append_right _ (List.mem_append_right _ (List.mem_append_right _ (List.mem_append_right _ (List.mem_append_right _ (List.mem_append_right _ (List.mem_append_right _ (List.mem_append_right _ (List.mem_append_left _ h)))))))))))))
theorem Q2_11i {w : Cond} (h : w ∈ Q2_11) : w ∈ lw_tbl := List.mem_append_right _ (List.mem_append_right _ (List.mem_append_left _ (by rw [Qe2]; exact List.mem_append_right _ (List.mem_append_right _ (List.mem_append_right _ (List.mem_append_right _ (List.mem_append_right _ (List.mem_append_right _ (List.mem_append_right _ (List.mem_append_right _ (List.mem_append_right _ (List.mem_append_right _ (List.mem_append_right _ (List.mem_append_left _ h))))))))))))))
theorem Q2_12i {w : Cond} (h : w ∈ Q2_12) : w ∈ lw_tbl := List.mem_append_right _ (List.mem_append_right _ (List.mem_append_left _ (by rw [Qe2]; exact List.mem_append_right _ (List.mem_append_right _ (List.mem_append_right _ (List.mem_append_right _ (List.mem_append_right _ (List.mem_append_right _ (List.mem_append_right _ (List.mem_append_right _ (List.mem_append_right _ (List.mem_append_right _ (List.mem_append_right _ (List.mem_append_right _ (List.mem_append_left _ h)))))))))))))))
theorem Q2_13i {w : Cond} (h : w ∈ Q2_13) : w ∈ lw_tbl := List.mem_append_right _ (List.mem_append_right _ (List.mem_append_left _ (by rw [Qe2]; exact List.mem_append_right _ (List.mem_append_right _ (List.mem_append_right _ (List.mem_append_right _ (List.mem_append_right _ (List.mem_append_right _ (List.mem_append_right _ (List.mem_append_right _ (List.mem_append_right _ (List.mem_append_right _ (List.mem_append_right _ (List.mem_append_right _ (List.mem_append_right _ (List.mem_append_left _ h))))))))))))))))
theorem Q2_14i {w : Cond} (h : w ∈ Q2_14) : w ∈ lw_tbl := List.mem_append_right _ (List.mem_append_right _ (List.mem_append_left _ (by rw [Qe2]; exact List.mem_append_right _ (List.mem_append_right _ (List.mem_append_right _ (List.mem_append_right _ (List.mem_append_right _ (List.mem_append_right _ (List.mem_append_right _ (List.mem_append_right _ (List.mem_append_right _ (List.mem_append_right _ (List.mem_append_right _ (List.mem_append_right _ (List.mem_append_right _ (List.mem_append_right _ (h)))))))))))))))))
def Q3_0 : List Cond := [Cond.codeWith yL_pass cL_pass 4 (some .int) [(0, 8, 11, 13), (0, 8, 14, 19)], Cond.classLink RL 19 "java/lang/IllegalStateException", Cond.methodLink RL 15 yX5_pass, Cond.instanceMethod yX5_pass, Cond.selects RX5 yX5_pass yX5_pass, Cond.code yX5_pass cX5_pass 2 (some .long), Cond.methodLink RX5 50 yX5_isBeyondLastTrueTime, Cond.privateMethod yX5_isBeyondLastTrueTime, Cond.instanceMethod yX5_isBeyondLastTrueTime, Cond.code yX5_isBeyondLastTrueTime cX5_isBeyondLastTrueTime 3 (some .boolean), Cond.constantLong RX5 203 (1000000000000), Cond.classLink RX5 54 "java/lang/IllegalStateException", Cond.instantiable "java/lang/IllegalStateException" 6, Cond.castable "java/lang/IllegalStateException" "java/lang/IllegalStateException", Cond.selects "java/lang/IllegalStateException" ⟨"java/lang/Throwable", "fillInStackTrace", "(I)Ljava/lang/Throwable;"⟩ ⟨"java/lang/Throwable", "fillInStackTrace", "(I)Ljava/lang/Throwable;"⟩, Cond.lays "java/lang/IllegalStateException" "java/lang/Throwable" "cause" "Ljava/lang/Throwable;"]
def Q3_1 : List Cond := [Cond.lays "java/lang/IllegalStateException" "java/lang/Throwable" "stackTrace" "[Ljava/lang/StackTraceElement;", Cond.lays "java/lang/IllegalStateException" "java/lang/Throwable" "suppressedExceptions" "Ljava/util/List;", Cond.lays "java/lang/IllegalStateException" "java/lang/Throwable" "detailMessage" "Ljava/lang/String;", Cond.lays "java/lang/IllegalStateException" "java/lang/Throwable" "backtrace" "Ljava/lang/Object;", Cond.methodLink RX5 56 ⟨"java/lang/IllegalStateException", "<init>", "()V"⟩, Cond.instanceMethod ⟨"java/lang/IllegalStateException", "<init>", "()V"⟩, Cond.code ⟨"java/lang/IllegalStateException", "<init>", "()V"⟩ prog_11_method_1_code 1 none, Cond.methodLink "java/lang/IllegalStateException" 1 ⟨"java/lang/RuntimeException", "<init>", "()V"⟩, Cond.lays "java/lang/IllegalStateException" "java/lang/Throwable" "depth" "I", Cond.superclass "java/lang/IllegalStateException" "java/lang/RuntimeException", Cond.methodLink RX5 57 yX5_elapse, Cond.privateMethod yX5_elapse, Cond.instanceMethod yX5_elapse, Cond.code yX5_elapse cX5_elapse 2 none, Cond.methodLink RX5 205 yX1_elapse, Cond.instanceMethod yX1_elapse]
def Q3_2 : List Cond := [Cond.selects RX1 yX1_elapse yX1_elapse, Cond.code yX1_elapse cX1_elapse 6 none, Cond.constantLong RX1 33 (500), Cond.methodLink RX1 35 Lib.MathLoose.min_long.x, Cond.static Lib.MathLoose.min_long.x, Cond.code Lib.MathLoose.min_long.x Lib.MathLoose.min_long.code 4 (some .long), Cond.methodLink RX1 38 Lib.MathLoose.max_long.x, Cond.static Lib.MathLoose.max_long.x, Cond.code Lib.MathLoose.max_long.x Lib.MathLoose.max_long.code 4 (some .long), Cond.methodLink RL 89 yL_setDrift, Cond.static yL_setDrift, Cond.codeWith yL_setDrift cL_setDrift 4 (some .int) [(0, 9, 12, 13)], Cond.methodLink RL 21 yX5_setDrift, Cond.instanceMethod yX5_setDrift, Cond.selects RX5 yX5_setDrift yX5_setDrift, Cond.code yX5_setDrift cX5_setDrift 2 (some .int)]
def Q3_3 : List Cond := [Cond.methodLink RX5 64 yX1_changeDrift, Cond.instanceMethod yX1_changeDrift, Cond.selects RX1 yX1_changeDrift yX1_changeDrift, Cond.code yX1_changeDrift cX1_changeDrift 3 (some .int), Cond.methodLink RL 112 yL_announceLeap, Cond.static yL_announceLeap, Cond.codeWith yL_announceLeap cL_announceLeap 5 (some .int) [(0, 9, 12, 13), (0, 9, 16, 19)], Cond.methodLink RL 25 yX5_announceLeap, Cond.instanceMethod yX5_announceLeap, Cond.selects RX5 yX5_announceLeap yX5_announceLeap, Cond.code yX5_announceLeap cX5_announceLeap 5 (some .long), Cond.methodLink RX5 79 yX0_smearBeginning, Cond.methodLink RX5 83 yX0_isAnnounced, Cond.instanceMethod yX0_isAnnounced, Cond.selects RX0 yX0_isAnnounced yX0_isAnnounced, Cond.code yX0_isAnnounced cX0_isAnnounced 2 (some .boolean)]
def Q3_4 : List Cond := [Cond.methodLink RX5 87 yX0_announce, Cond.instanceMethod yX0_announce, Cond.selects RX0 yX0_announce yX0_announce, Cond.code yX0_announce cX0_announce 3 none, Cond.methodLink RL 120 yL_addServer, Cond.static yL_addServer, Cond.codeWith yL_addServer cL_addServer 7 (some .int) [(0, 14, 17, 13), (0, 14, 21, 19)], Cond.methodLink RL 29 yX5_addServer, Cond.instanceMethod yX5_addServer, Cond.selects RX5 yX5_addServer yX5_addServer, Cond.code yX5_addServer cX5_addServer 6 (some .int), Cond.methodLink RX5 95 yX5_isServerError, Cond.static yX5_isServerError, Cond.code yX5_isServerError cX5_isServerError 1 (some .boolean), Cond.constant RX5 198 (-1000000), Cond.constant RX5 98 (1000000)]
def Q3_5 : List Cond := [Cond.methodLink RX5 107 yX4_settle, Cond.instanceMethod yX4_settle, Cond.selects RX4 yX4_settle yX4_settle, Cond.code yX4_settle cX4_settle 5 none, Cond.methodLink RX4 38 yX4_forget, Cond.instanceMethod yX4_forget, Cond.selects RX4 yX4_forget yX4_forget, Cond.code yX4_forget cX4_forget 1 none, Cond.methodLink RL 124 yL_setError, Cond.static yL_setError, Cond.codeWith yL_setError cL_setError 5 (some .int) [(0, 10, 13, 37), (0, 10, 17, 13)], Cond.classLink RL 37 "java/lang/IndexOutOfBoundsException", Cond.methodLink RL 33 yX5_setError, Cond.instanceMethod yX5_setError, Cond.selects RX5 yX5_setError yX5_setError, Cond.code yX5_setError cX5_setError 4 (some .int)]
def Q3_6 : List Cond := [Cond.methodLink RX5 111 yX5_knownServer, Cond.privateMethod yX5_knownServer, Cond.instanceMethod yX5_knownServer, Cond.code yX5_knownServer cX5_knownServer 3 (some (.object "Clockhouse$Server")), Cond.classLink RX5 209 "java/lang/IndexOutOfBoundsException", Cond.instantiable "java/lang/IndexOutOfBoundsException" 6, Cond.castable "java/lang/IndexOutOfBoundsException" "java/lang/IndexOutOfBoundsException", Cond.selects "java/lang/IndexOutOfBoundsException" ⟨"java/lang/Throwable", "fillInStackTrace", "(I)Ljava/lang/Throwable;"⟩ ⟨"java/lang/Throwable", "fillInStackTrace", "(I)Ljava/lang/Throwable;"⟩, Cond.lays "java/lang/IndexOutOfBoundsException" "java/lang/Throwable" "cause" "Ljava/lang/Throwable;", Cond.lays "java/lang/IndexOutOfBoundsException" "java/lang/Throwable" "stackTrace" "[Ljava/lang/StackTraceElement;", Cond.lays "java/lang/IndexOutOfBoundsException" "java/lang/Throwable" "suppressedExceptions" "Ljava/util/List;", Cond.lays "java/lang/IndexOutOfBoundsException" "java/lang/Throwable" "detailMessage" "Ljava/lang/String;", Cond.lays "java/lang/IndexOutOfBoundsException" "java/lang/Throwable" "backtrace" "Ljava/lang/Object;", Cond.methodLink RX5 211 ⟨"java/lang/IndexOutOfBoundsException", "<init>", "()V"⟩, Cond.instanceMethod ⟨"java/lang/IndexOutOfBoundsException", "<init>", "()V"⟩, Cond.code ⟨"java/lang/IndexOutOfBoundsException", "<init>", "()V"⟩ prog_12_method_1_code 1 none]
def Q3_7 : List Cond := [Cond.methodLink "java/lang/IndexOutOfBoundsException" 1 ⟨"java/lang/RuntimeException", "<init>", "()V"⟩, Cond.lays "java/lang/IndexOutOfBoundsException" "java/lang/Throwable" "depth" "I", Cond.superclass "java/lang/IndexOutOfBoundsException" "java/lang/RuntimeException", Cond.methodLink RX5 114 yX4_changeError, Cond.instanceMethod yX4_changeError, Cond.selects RX4 yX4_changeError yX4_changeError, Cond.code yX4_changeError cX4_changeError 3 (some .int), Cond.methodLink RL 128 yL_exchange, Cond.static yL_exchange, Cond.codeWith yL_exchange cL_exchange 7 (some .int) [(0, 13, 16, 37), (0, 13, 20, 13), (0, 13, 24, 19)], Cond.methodLink RL 39 yX5_exchange, Cond.instanceMethod yX5_exchange, Cond.selects RX5 yX5_exchange yX5_exchange, Cond.code yX5_exchange cX5_exchange 6 (some .long), Cond.constant RX5 117 (500000), Cond.constant RX5 118 (100000)]
def Q3_8 : List Cond := [Cond.methodLink RX5 119 yX5_takeSample, Cond.privateMethod yX5_takeSample, Cond.instanceMethod yX5_takeSample, Cond.code yX5_takeSample cX5_takeSample 17 (some .long), Cond.methodLink RX5 212 yX4_readingAt, Cond.instanceMethod yX4_readingAt, Cond.selects RX4 yX4_readingAt yX4_readingAt, Cond.code yX4_readingAt cX4_readingAt 3 (some .long), Cond.constantLong RX5 215 (2), Cond.methodLink RX5 217 yJ9_floorDiv_f86c9, Cond.methodLink RX5 223 Lib.MathLoose.max_long.x, Cond.methodLink RX5 226 yX4_keep, Cond.instanceMethod yX4_keep, Cond.selects RX4 yX4_keep yX4_keep, Cond.code yX4_keep cX4_keep 7 none, Cond.methodLink RX4 47 yX2_push]
def Q3_9 : List Cond := [Cond.instanceMethod yX2_push, Cond.selects RX2 yX2_push yX2_push, Cond.code yX2_push cX2_push 4 none, Cond.methodLink RX2 13 yX2_get, Cond.methodLink RX2 17 yX2_put, Cond.methodLink RX4 51 Lib.Math.min.name, Cond.static Lib.Math.min.name, Cond.code Lib.Math.min.name Lib.Math.min.code 2 (some .int), Cond.methodLink RX4 57 yX4_leastDelay, Cond.privateMethod yX4_leastDelay, Cond.instanceMethod yX4_leastDelay, Cond.code yX4_leastDelay cX4_leastDelay 3 (some .int), Cond.methodLink RL 135 yL_samples, Cond.static yL_samples, Cond.codeWith yL_samples cL_samples 4 (some .int) [(0, 9, 12, 37)], Cond.methodLink RL 43 yX5_samples]
def Q3_10 : List Cond := [Cond.instanceMethod yX5_samples, Cond.selects RX5 yX5_samples yX5_samples, Cond.code yX5_samples cX5_samples 2 (some .int), Cond.methodLink RL 138 yL_offset, Cond.static yL_offset, Cond.codeWith yL_offset cL_offset 4 (some .int) [(0, 8, 11, 37), (0, 8, 14, 19)], Cond.methodLink RL 46 yX5_offset, Cond.instanceMethod yX5_offset, Cond.selects RX5 yX5_offset yX5_offset, Cond.code yX5_offset cX5_offset 2 (some .long), Cond.methodLink RX5 126 yX5_heardServer, Cond.privateMethod yX5_heardServer, Cond.instanceMethod yX5_heardServer, Cond.code yX5_heardServer cX5_heardServer 3 (some (.object "Clockhouse$Server")), Cond.methodLink RX5 129 yX4_bestOffset, Cond.methodLink RL 141 yL_delay]
def Q3_11 : List Cond := [Cond.static yL_delay, Cond.codeWith yL_delay cL_delay 4 (some .int) [(0, 8, 11, 37), (0, 8, 14, 19)], Cond.methodLink RL 49 yX5_delay, Cond.instanceMethod yX5_delay, Cond.selects RX5 yX5_delay yX5_delay, Cond.code yX5_delay cX5_delay 2 (some .long), Cond.methodLink RX5 132 yX4_bestDelay, Cond.methodLink RL 144 yL_jitter, Cond.static yL_jitter, Cond.codeWith yL_jitter cL_jitter 4 (some .int) [(0, 8, 11, 37), (0, 8, 14, 19)], Cond.methodLink RL 52 yX5_jitter, Cond.instanceMethod yX5_jitter, Cond.selects RX5 yX5_jitter yX5_jitter, Cond.code yX5_jitter cX5_jitter 2 (some .long), Cond.methodLink RX5 135 yX4_offsetJitter, Cond.methodLink RL 147 yL_distance]
def Q3_12 : List Cond := [Cond.static yL_distance, Cond.codeWith yL_distance cL_distance 4 (some .int) [(0, 8, 11, 37), (0, 8, 14, 19)], Cond.methodLink RL 55 yX5_distance, Cond.instanceMethod yX5_distance, Cond.selects RX5 yX5_distance yX5_distance, Cond.code yX5_distance cX5_distance 2 (some .long), Cond.methodLink RX5 138 yX4_distanceAt, Cond.methodLink RL 163 yL_low, Cond.static yL_low, Cond.codeWith yL_low cL_low 3 (some .int) [(0, 7, 10, 19)], Cond.methodLink RL 58 yX5_low, Cond.instanceMethod yX5_low, Cond.selects RX5 yX5_low yX5_low, Cond.code yX5_low cX5_low 1 (some .long), Cond.methodLink RX5 154 yX5_selectFromSome, Cond.privateMethod yX5_selectFromSome]
def Q3_13 : List Cond := [Cond.instanceMethod yX5_selectFromSome, Cond.code yX5_selectFromSome cX5_selectFromSome 1 none, Cond.methodLink RX5 241 yX3_isEmpty, Cond.instanceMethod yX3_isEmpty, Cond.selects RX3 yX3_isEmpty yX3_isEmpty, Cond.code yX3_isEmpty cX3_isEmpty 1 (some .boolean), Cond.methodLink RX5 157 yX3_lowEnd, Cond.instanceMethod yX3_lowEnd, Cond.selects RX3 yX3_lowEnd yX3_lowEnd, Cond.code yX3_lowEnd cX3_lowEnd 1 (some .long), Cond.methodLink RL 167 yL_high, Cond.static yL_high, Cond.codeWith yL_high cL_high 3 (some .int) [(0, 7, 10, 19)], Cond.methodLink RL 62 yX5_high, Cond.instanceMethod yX5_high, Cond.selects RX5 yX5_high yX5_high]
def Q3_14 : List Cond := [Cond.code yX5_high cX5_high 1 (some .long), Cond.methodLink RX5 160 yX3_highEnd, Cond.instanceMethod yX3_highEnd, Cond.selects RX3 yX3_highEnd yX3_highEnd, Cond.code yX3_highEnd cX3_highEnd 1 (some .long), Cond.methodLink RL 174 yL_combinedOffset, Cond.static yL_combinedOffset, Cond.codeWith yL_combinedOffset cL_combinedOffset 3 (some .int) [(0, 7, 10, 19)], Cond.methodLink RL 65 yX5_combinedOffset, Cond.instanceMethod yX5_combinedOffset, Cond.selects RX5 yX5_combinedOffset yX5_combinedOffset, Cond.code yX5_combinedOffset cX5_combinedOffset 1 (some .long), Cond.methodLink RX5 166 yX3_weightedOffset, Cond.instanceMethod yX3_weightedOffset, Cond.selects RX3 yX3_weightedOffset yX3_weightedOffset, Cond.code yX3_weightedOffset cX3_weightedOffset 6 (some .long)]
set_option maxRecDepth 100000 in
theorem Qe3 : tables_1_3 = Q3_0 ++ (Q3_1 ++ (Q3_2 ++ (Q3_3 ++ (Q3_4 ++ (Q3_5 ++ (Q3_6 ++ (Q3_7 ++ (Q3_8 ++ (Q3_9 ++ (Q3_10 ++ (Q3_11 ++ (Q3_12 ++ (Q3_13 ++ (Q3_14)))))))))))))) := rfl
theorem Q3_0i {w : Cond} (h : w ∈ Q3_0) : w ∈ lw_tbl := List.mem_append_right _ (List.mem_append_right _ (List.mem_append_right _ (List.mem_append_left _ (by rw [Qe3]; exact List.mem_append_left _ h))))
theorem Q3_1i {w : Cond} (h : w ∈ Q3_1) : w ∈ lw_tbl := List.mem_append_right _ (List.mem_append_right _ (List.mem_append_right _ (List.mem_append_left _ (by rw [Qe3]; exact List.mem_append_right _ (List.mem_append_left _ h)))))
theorem Q3_2i {w : Cond} (h : w ∈ Q3_2) : w ∈ lw_tbl := List.mem_append_right _ (List.mem_append_right _ (List.mem_append_right _ (List.mem_append_left _ (by rw [Qe3]; exact List.mem_append_right _ (List.mem_append_right _ (List.mem_append_left _ h))))))
theorem Q3_3i {w : Cond} (h : w ∈ Q3_3) : w ∈ lw_tbl := List.mem_append_right _ (List.mem_append_right _ (List.mem_append_right _ (List.mem_append_left _ (by rw [Qe3]; exact List.mem_append_right _ (List.mem_append_right _ (List.mem_append_right _ (List.mem_append_left _ h)))))))
theorem Q3_4i {w : Cond} (h : w ∈ Q3_4) : w ∈ lw_tbl := List.mem_append_right _ (List.mem_append_right _ (List.mem_append_right _ (List.mem_append_left _ (by rw [Qe3]; exact List.mem_append_right _ (List.mem_append_right _ (List.mem_append_right _ (List.mem_append_right _ (List.mem_append_left _ h))))))))
theorem Q3_5i {w : Cond} (h : w ∈ Q3_5) : w ∈ lw_tbl := List.mem_append_right _ (List.mem_append_right _ (List.mem_append_right _ (List.mem_append_left _ (by rw [Qe3]; exact List.mem_append_right _ (List.mem_append_right _ (List.mem_append_right _ (List.mem_append_right _ (List.mem_append_right _ (List.mem_append_left _ h)))))))))
theorem Q3_6i {w : Cond} (h : w ∈ Q3_6) : w ∈ lw_tbl := List.mem_append_right _ (List.mem_append_right _ (List.mem_append_right _ (List.mem_append_left _ (by rw [Qe3]; exact List.mem_append_right _ (List.mem_append_right _ (List.mem_append_right _ (List.mem_append_right _ (List.mem_append_right _ (List.mem_append_right _ (List.mem_append_left _ h))))))))))
theorem Q3_7i {w : Cond} (h : w ∈ Q3_7) : w ∈ lw_tbl := List.mem_append_right _ (List.mem_append_right _ (List.mem_append_right _ (List.mem_append_left _ (by rw [Qe3]; exact List.mem_append_right _ (List.mem_append_right _ (List.mem_append_right _ (List.mem_append_right _ (List.mem_append_right _ (List.mem_append_right _ (List.mem_append_right _ (List.mem_append_left _ h)))))))))))
theorem Q3_8i {w : Cond} (h : w ∈ Q3_8) : w ∈ lw_tbl := List.mem_append_right _ (List.mem_append_right _ (List.mem_append_right _ (List.mem_append_left _ (by rw [Qe3]; exact List.mem_append_right _ (List.mem_append_right _ (List.mem_append_right _ (List.mem_append_right _ (List.mem_append_right _ (List.mem_append_right _ (List.mem_append_right _ (List.mem_append_right _ (List.mem_append_left _ h))))))))))))
theorem Q3_9i {w : Cond} (h : w ∈ Q3_9) : w ∈ lw_tbl := List.mem_append_right _ (List.mem_append_right _ (List.mem_append_right _ (List.mem_append_left _ (by rw [Qe3]; exact List.mem_append_right _ (List.mem_append_right _ (List.mem_append_right _ (List.mem_append_right _ (List.mem_append_right _ (List.mem_append_right _ (List.mem_append_right _ (List.mem_append_right _ (List.mem_append_right _ (List.mem_append_left _ h)))))))))))))
theorem Q3_10i {w : Cond} (h : w ∈ Q3_10) : w ∈ lw_tbl := List.mem_append_right _ (List.mem_append_right _ (List.mem_append_right _ (List.mem_append_left _ (by rw [Qe3]; exact List.mem_append_right _ (List.mem_append_right _ (List.mem_append_right _ (List.mem_append_right _ (List.mem_append_right _ (List.mem_append_right _ (List.mem_append_right _ (List.mem_append_right _ (List.mem_append_right _ (List.mem_append_right _ (List.mem_append_left _ h))))))))))))))
theorem Q3_11i {w : Cond} (h : w ∈ Q3_11) : w ∈ lw_tbl := List.mem_append_right _ (List.mem_append_right _ (List.mem_append_right _ (List.mem_append_left _ (by rw [Qe3]; exact List.mem_append_right _ (List.mem_append_right _ (List.mem_append_right _ (List.mem_append_right _ (List.mem_append_right _ (List.mem_append_right _ (List.mem_append_right _ (List.mem_append_right _ (List.mem_append_right _ (List.mem_append_right _ (List.mem_append_right _ (List.mem_append_left _ h)))))))))))))))
theorem Q3_12i {w : Cond} (h : w ∈ Q3_12) : w ∈ lw_tbl := List.mem_append_right _ (List.mem_append_right _ (List.mem_append_right _ (List.mem_append_left _ (by rw [Qe3]; exact List.mem_append_right _ (List.mem_append_right _ (List.mem_append_right _ (List.mem_append_right _ (List.mem_append_right _ (List.mem_append_right _ (List.mem_append_right _ (List.mem_append_right _ (List.mem_append_right _ (List.mem_append_right _ (List.mem_append_right _ (List.mem_append_right _ (List.mem_append_left _ h))))))))))))))))
theorem Q3_13i {w : Cond} (h : w ∈ Q3_13) : w ∈ lw_tbl := List.mem_append_right _ (List.mem_append_right _ (List.mem_append_right _ (List.mem_append_left _ (by rw [Qe3]; exact List.mem_append_right _ (List.mem_append_right _ (List.mem_append_right _ (List.mem_append_right _ (List.mem_append_right _ (List.mem_append_right _ (List.mem_append_right _ (List.mem_append_right _ (List.mem_append_right _ (List.mem_append_right _ (List.mem_append_right _ (List.mem_append_right _ (List.mem_append_right _ (List.mem_append_left _ h)))))))))))))))))
theorem Q3_14i {w : Cond} (h : w ∈ Q3_14) : w ∈ lw_tbl := List.mem_append_right _ (List.mem_append_right _ (List.mem_append_right _ (List.mem_append_left _ (by rw [Qe3]; exact List.mem_append_right _ (List.mem_append_right _ (List.mem_append_right _ (List.mem_append_right _ (List.mem_append_right _ (List.mem_append_right _ (List.mem_append_right _ (List.mem_append_right _ (List.mem_append_right _ (List.mem_append_right _ (List.mem_append_right _ (List.mem_append_right _ (List.mem_append_right _ (List.mem_append_right _ (h))))))))))))))))))
def Q4_0 : List Cond := [Cond.methodLink RX3 107 yX3_weight, Cond.privateMethod yX3_weight, Cond.instanceMethod yX3_weight, Cond.code yX3_weight cX3_weight 4 (some .long), Cond.constantLong RX3 114 (1000000), Cond.methodLink RX3 116 Lib.MathLoose.max_long.x, Cond.methodLink RX3 110 yJ9_floorDiv_f86c9, Cond.methodLink RL 181 yL_synchronize, Cond.static yL_synchronize, Cond.codeWith yL_synchronize cL_synchronize 3 (some .int) [(0, 8, 11, 19)], Cond.methodLink RL 68 yX5_synchronize, Cond.instanceMethod yX5_synchronize, Cond.selects RX5 yX5_synchronize yX5_synchronize, Cond.code yX5_synchronize cX5_synchronize 4 (some .int), Cond.methodLink RX5 172 yX5_correctRate, Cond.privateMethod yX5_correctRate]
def Q4_1 : List Cond := [Cond.instanceMethod yX5_correctRate, Cond.code yX5_correctRate cX5_correctRate 7 none, Cond.constantLong RX5 244 (1000000), Cond.constantLong RX5 246 (4), Cond.methodLink RX5 248 yX1_addCorrection, Cond.instanceMethod yX1_addCorrection, Cond.selects RX1 yX1_addCorrection yX1_addCorrection, Cond.code yX1_addCorrection cX1_addCorrection 5 none, Cond.constantLong RX1 41 (-500), Cond.methodLink RX5 176 yX5_correctTime, Cond.privateMethod yX5_correctTime, Cond.instanceMethod yX5_correctTime, Cond.code yX5_correctTime cX5_correctTime 3 (some .int), Cond.constantLong RX5 251 (128000), Cond.methodLink RX5 253 yX1_step, Cond.instanceMethod yX1_step]
def Q4_2 : List Cond := [Cond.selects RX1 yX1_step yX1_step, Cond.code yX1_step cX1_step 3 none, Cond.methodLink RX5 256 yX1_slew, Cond.instanceMethod yX1_slew, Cond.selects RX1 yX1_slew yX1_slew, Cond.code yX1_slew cX1_slew 3 none, Cond.methodLink RX5 180 yX5_takeStratumOfPeer, Cond.privateMethod yX5_takeStratumOfPeer, Cond.instanceMethod yX5_takeStratumOfPeer, Cond.code yX5_takeStratumOfPeer cX5_takeStratumOfPeer 2 none, Cond.methodLink RX5 259 yX4_ownStratum, Cond.methodLink RX5 183 yX5_forgetSamples, Cond.privateMethod yX5_forgetSamples, Cond.instanceMethod yX5_forgetSamples, Cond.code yX5_forgetSamples cX5_forgetSamples 3 none, Cond.methodLink RX5 262 yX4_forget]
def Q4_3 : List Cond := [Cond.classLink RL 73 RX6, Cond.instantiable RX6 26, Cond.methodLink RL 75 yX6_init, Cond.instanceMethod yX6_init, Cond.code yX6_init cX6_init 1 none, Cond.methodLink RX6 1 objectInit, Cond.fieldLink RX6 49 "ClockhouseModel" "refusal" "I", Cond.fieldLink RX6 74 "ClockhouseModel" "now" "J", Cond.fieldLink RX6 52 "ClockhouseModel" "picos" "J", Cond.fieldLink RX6 77 "ClockhouseModel" "pending" "J", Cond.fieldLink RX6 80 "ClockhouseModel" "drift" "I", Cond.fieldLink RX6 83 "ClockhouseModel" "correction" "I", Cond.fieldLink RX6 86 "ClockhouseModel" "steps" "I", Cond.fieldLink RX6 89 "ClockhouseModel" "synchronizations" "I", Cond.fieldLink RX6 7 "ClockhouseModel" "stratum" "I", Cond.fieldLink RX6 92 "ClockhouseModel" "lastReading" "J"]
def Q4_4 : List Cond := [Cond.fieldLink RX6 13 "ClockhouseModel" "leaps" "[I", Cond.fieldLink RX6 95 "ClockhouseModel" "servers" "I", Cond.fieldLink RX6 17 "ClockhouseModel" "strata" "[I", Cond.fieldLink RX6 20 "ClockhouseModel" "errors" "[I", Cond.fieldLink RX6 23 "ClockhouseModel" "rootDelays" "[I", Cond.fieldLink RX6 26 "ClockhouseModel" "rootDispersions" "[I", Cond.fieldLink RX6 29 "ClockhouseModel" "kept" "[I", Cond.fieldLink RX6 32 "ClockhouseModel" "offsets" "[J", Cond.fieldLink RX6 36 "ClockhouseModel" "delays" "[J", Cond.fieldLink RX6 39 "ClockhouseModel" "times" "[J", Cond.fieldLink RX6 178 "ClockhouseModel" "candidates" "I", Cond.fieldLink RX6 181 "ClockhouseModel" "most" "I", Cond.fieldLink RX6 188 "ClockhouseModel" "lowEnd" "J", Cond.fieldLink RX6 191 "ClockhouseModel" "highEnd" "J", Cond.fieldLink RX6 42 "ClockhouseModel" "agrees" "[Z", Cond.fieldLink RX6 46 "ClockhouseModel" "survives" "[Z"]
def Q4_5 : List Cond := [Cond.lays "ClockhouseModel" "ClockhouseModel" "refusal" "I", Cond.soleField "ClockhouseModel" "refusal", Cond.lays "ClockhouseModel" "ClockhouseModel" "now" "J", Cond.soleField "ClockhouseModel" "now", Cond.lays "ClockhouseModel" "ClockhouseModel" "picos" "J", Cond.soleField "ClockhouseModel" "picos", Cond.lays "ClockhouseModel" "ClockhouseModel" "pending" "J", Cond.soleField "ClockhouseModel" "pending", Cond.lays "ClockhouseModel" "ClockhouseModel" "drift" "I", Cond.soleField "ClockhouseModel" "drift", Cond.lays "ClockhouseModel" "ClockhouseModel" "correction" "I", Cond.soleField "ClockhouseModel" "correction", Cond.lays "ClockhouseModel" "ClockhouseModel" "steps" "I", Cond.soleField "ClockhouseModel" "steps", Cond.lays "ClockhouseModel" "ClockhouseModel" "synchronizations" "I", Cond.soleField "ClockhouseModel" "synchronizations"]
def Q4_6 : List Cond := [Cond.lays "ClockhouseModel" "ClockhouseModel" "stratum" "I", Cond.soleField "ClockhouseModel" "stratum", Cond.lays "ClockhouseModel" "ClockhouseModel" "lastReading" "J", Cond.soleField "ClockhouseModel" "lastReading", Cond.laysFinal "ClockhouseModel" "ClockhouseModel" "leaps" "[I", Cond.soleField "ClockhouseModel" "leaps", Cond.lays "ClockhouseModel" "ClockhouseModel" "servers" "I", Cond.soleField "ClockhouseModel" "servers", Cond.laysFinal "ClockhouseModel" "ClockhouseModel" "strata" "[I", Cond.soleField "ClockhouseModel" "strata", Cond.laysFinal "ClockhouseModel" "ClockhouseModel" "errors" "[I", Cond.soleField "ClockhouseModel" "errors", Cond.laysFinal "ClockhouseModel" "ClockhouseModel" "rootDelays" "[I", Cond.soleField "ClockhouseModel" "rootDelays", Cond.laysFinal "ClockhouseModel" "ClockhouseModel" "rootDispersions" "[I", Cond.soleField "ClockhouseModel" "rootDispersions"]
def Q4_7 : List Cond := [Cond.laysFinal "ClockhouseModel" "ClockhouseModel" "kept" "[I", Cond.soleField "ClockhouseModel" "kept", Cond.laysFinal "ClockhouseModel" "ClockhouseModel" "offsets" "[J", Cond.soleField "ClockhouseModel" "offsets", Cond.laysFinal "ClockhouseModel" "ClockhouseModel" "delays" "[J", Cond.soleField "ClockhouseModel" "delays", Cond.laysFinal "ClockhouseModel" "ClockhouseModel" "times" "[J", Cond.soleField "ClockhouseModel" "times", Cond.lays "ClockhouseModel" "ClockhouseModel" "candidates" "I", Cond.soleField "ClockhouseModel" "candidates", Cond.lays "ClockhouseModel" "ClockhouseModel" "most" "I", Cond.soleField "ClockhouseModel" "most", Cond.lays "ClockhouseModel" "ClockhouseModel" "lowEnd" "J", Cond.soleField "ClockhouseModel" "lowEnd", Cond.lays "ClockhouseModel" "ClockhouseModel" "highEnd" "J", Cond.soleField "ClockhouseModel" "highEnd"]
def Q4_8 : List Cond := [Cond.laysFinal "ClockhouseModel" "ClockhouseModel" "agrees" "[Z", Cond.soleField "ClockhouseModel" "agrees", Cond.laysFinal "ClockhouseModel" "ClockhouseModel" "survives" "[Z", Cond.soleField "ClockhouseModel" "survives", Cond.superclass "ClockhouseModel" "java/lang/Object", Cond.arrayClass .int, Cond.arrayClass .boolean, Cond.methodLink RL 82 yX6_thrown, Cond.instanceMethod yX6_thrown, Cond.selects RX6 yX6_thrown yX6_thrown, Cond.code yX6_thrown cX6_thrown 1 (some .int), Cond.methodLink RL 81 yX6_restart, Cond.instanceMethod yX6_restart, Cond.selects RX6 yX6_restart yX6_restart, Cond.code yX6_restart cX6_restart 3 none, Cond.constantLong RX6 62 (-1000000000)]
def Q4_9 : List Cond := [Cond.constantLong RX6 64 (1000000000), Cond.methodLink RX6 66 yX6_in, Cond.static yX6_in, Cond.code yX6_in cX6_in 6 (some .boolean), Cond.methodLink RX6 70 yX6_refused, Cond.privateMethod yX6_refused, Cond.instanceMethod yX6_refused, Cond.code yX6_refused cX6_refused 2 (some .boolean), Cond.constantLong RX6 56 (1000000), Cond.methodLink RL 88 yX6_pass, Cond.instanceMethod yX6_pass, Cond.selects RX6 yX6_pass yX6_pass, Cond.code yX6_pass cX6_pass 2 (some .long), Cond.constantLong RX6 100 (1000000000000), Cond.methodLink RX6 102 yX6_goOn, Cond.privateMethod yX6_goOn]
def Q4_10 : List Cond := [Cond.instanceMethod yX6_goOn, Cond.code yX6_goOn cX6_goOn 6 none, Cond.constantLong RX6 98 (500), Cond.methodLink RX6 106 yX6_reading, Cond.privateMethod yX6_reading, Cond.instanceMethod yX6_reading, Cond.code yX6_reading cX6_reading 1 (some .long), Cond.methodLink RX6 58 yX6_down, Cond.static yX6_down, Cond.code yX6_down cX6_down 6 (some .long), Cond.methodLink RL 91 yX6_setDrift, Cond.instanceMethod yX6_setDrift, Cond.selects RX6 yX6_setDrift yX6_setDrift, Cond.code yX6_setDrift cX6_setDrift 3 (some .int), Cond.constantLong RX6 110 (-300), Cond.constantLong RX6 112 (300)]
def Q4_11 : List Cond := [Cond.methodLink RL 95 yX6_trueTime, Cond.instanceMethod yX6_trueTime, Cond.selects RX6 yX6_trueTime yX6_trueTime, Cond.code yX6_trueTime cX6_trueTime 1 (some .long), Cond.methodLink RX6 114 yX6_fineLong, Cond.privateMethod yX6_fineLong, Cond.instanceMethod yX6_fineLong, Cond.code yX6_fineLong cX6_fineLong 3 (some .long), Cond.methodLink RL 99 yX6_clock, Cond.instanceMethod yX6_clock, Cond.selects RX6 yX6_clock yX6_clock, Cond.code yX6_clock cX6_clock 1 (some .long), Cond.methodLink RL 103 yX6_error, Cond.instanceMethod yX6_error, Cond.selects RX6 yX6_error yX6_error, Cond.code yX6_error cX6_error 1 (some .long)]
def Q4_12 : List Cond := [Cond.methodLink RL 107 yX6_pendingSlew, Cond.instanceMethod yX6_pendingSlew, Cond.selects RX6 yX6_pendingSlew yX6_pendingSlew, Cond.code yX6_pendingSlew cX6_pendingSlew 1 (some .long), Cond.methodLink RL 111 yX6_correction, Cond.instanceMethod yX6_correction, Cond.selects RX6 yX6_correction yX6_correction, Cond.code yX6_correction cX6_correction 1 (some .int), Cond.methodLink RX6 118 yX6_fine, Cond.privateMethod yX6_fine, Cond.instanceMethod yX6_fine, Cond.code yX6_fine cX6_fine 2 (some .int), Cond.methodLink RL 115 yX6_announceLeap, Cond.instanceMethod yX6_announceLeap, Cond.selects RX6 yX6_announceLeap yX6_announceLeap, Cond.code yX6_announceLeap cX6_announceLeap 4 (some .long)]
def Q4_13 : List Cond := [Cond.constantLong RX6 126 (20), Cond.methodLink RX6 128 yX6_smearFrom, Cond.static yX6_smearFrom, Cond.code yX6_smearFrom cX6_smearFrom 1 (some .long), Cond.constantLong RX6 122 (86400000000), Cond.constantLong RX6 124 (20000000000), Cond.methodLink RL 119 yX6_civil, Cond.instanceMethod yX6_civil, Cond.selects RX6 yX6_civil yX6_civil, Cond.code yX6_civil cX6_civil 8 (some .long), Cond.constantLong RX6 132 (20000), Cond.methodLink RL 123 yX6_addServer, Cond.instanceMethod yX6_addServer, Cond.selects RX6 yX6_addServer yX6_addServer, Cond.code yX6_addServer cX6_addServer 6 (some .int), Cond.constantLong RX6 134 (14)]
def Q4_14 : List Cond := [Cond.constantLong RX6 136 (-1000000), Cond.methodLink RL 127 yX6_setError, Cond.instanceMethod yX6_setError, Cond.selects RX6 yX6_setError yX6_setError, Cond.code yX6_setError cX6_setError 4 (some .int), Cond.methodLink RX6 138 yX6_isServer, Cond.privateMethod yX6_isServer, Cond.instanceMethod yX6_isServer, Cond.code yX6_isServer cX6_isServer 2 (some .boolean), Cond.methodLink RL 130 yX6_exchange, Cond.instanceMethod yX6_exchange, Cond.selects RX6 yX6_exchange yX6_exchange, Cond.code yX6_exchange cX6_exchange 16 (some .long), Cond.constantLong RX6 141 (500000), Cond.constantLong RX6 143 (100000), Cond.constantLong RX6 145 (2)]
set_option maxRecDepth 100000 in
theorem Qe4 : tables_1_4 = Q4_0 ++ (Q4_1 ++ (Q4_2 ++ (Q4_3 ++ (Q4_4 ++ (Q4_5 ++ (Q4_6 ++ (Q4_7 ++ (Q4_8 ++ (Q4_9 ++ (Q4_10 ++ (Q4_11 ++ (Q4_12 ++ (Q4_13 ++ (Q4_14)))))))))))))) := rfl
theorem Q4_0i {w : Cond} (h : w ∈ Q4_0) : w ∈ lw_tbl := List.mem_append_right _ (List.mem_append_right _ (List.mem_append_right _ (List.mem_append_right _ (List.mem_append_left _ (by rw [Qe4]; exact List.mem_append_left _ h)))))
theorem Q4_1i {w : Cond} (h : w ∈ Q4_1) : w ∈ lw_tbl := List.mem_append_right _ (List.mem_append_right _ (List.mem_append_right _ (List.mem_append_right _ (List.mem_append_left _ (by rw [Qe4]; exact List.mem_append_right _ (List.mem_append_left _ h))))))
theorem Q4_2i {w : Cond} (h : w ∈ Q4_2) : w ∈ lw_tbl := List.mem_append_right _ (List.mem_append_right _ (List.mem_append_right _ (List.mem_append_right _ (List.mem_append_left _ (by rw [Qe4]; exact List.mem_append_right _ (List.mem_append_right _ (List.mem_append_left _ h)))))))
theorem Q4_3i {w : Cond} (h : w ∈ Q4_3) : w ∈ lw_tbl := List.mem_append_right _ (List.mem_append_right _ (List.mem_append_right _ (List.mem_append_right _ (List.mem_append_left _ (by rw [Qe4]; exact List.mem_append_right _ (List.mem_append_right _ (List.mem_append_right _ (List.mem_append_left _ h))))))))
theorem Q4_4i {w : Cond} (h : w ∈ Q4_4) : w ∈ lw_tbl := List.mem_append_right _ (List.mem_append_right _ (List.mem_append_right _ (List.mem_append_right _ (List.mem_append_left _ (by rw [Qe4]; exact List.mem_append_right _ (List.mem_append_right _ (List.mem_append_right _ (List.mem_append_right _ (List.mem_append_left _ h)))))))))
theorem Q4_5i {w : Cond} (h : w ∈ Q4_5) : w ∈ lw_tbl := List.mem_append_right _ (List.mem_append_right _ (List.mem_append_right _ (List.mem_append_right _ (List.mem_append_left _ (by rw [Qe4]; exact List.mem_append_right _ (List.mem_append_right _ (List.mem_append_right _ (List.mem_append_right _ (List.mem_append_right _ (List.mem_append_left _ h))))))))))
theorem Q4_6i {w : Cond} (h : w ∈ Q4_6) : w ∈ lw_tbl := List.mem_append_right _ (List.mem_append_right _ (List.mem_append_right _ (List.mem_append_right _ (List.mem_append_left _ (by rw [Qe4]; exact List.mem_append_right _ (List.mem_append_right _ (List.mem_append_right _ (List.mem_append_right _ (List.mem_append_right _ (List.mem_append_right _ (List.mem_append_left _ h)))))))))))
theorem Q4_7i {w : Cond} (h : w ∈ Q4_7) : w ∈ lw_tbl := List.mem_append_right _ (List.mem_append_right _ (List.mem_append_right _ (List.mem_append_right _ (List.mem_append_left _ (by rw [Qe4]; exact List.mem_append_right _ (List.mem_append_right _ (List.mem_append_right _ (List.mem_append_right _ (List.mem_append_right _ (List.mem_append_right _ (List.mem_append_right _ (List.mem_append_left _ h))))))))))))
theorem Q4_8i {w : Cond} (h : w ∈ Q4_8) : w ∈ lw_tbl := List.mem_append_right _ (List.mem_append_right _ (List.mem_append_right _ (List.mem_append_right _ (List.mem_append_left _ (by rw [Qe4]; exact List.mem_append_right _ (List.mem_append_right _ (List.mem_append_right _ (List.mem_append_right _ (List.mem_append_right _ (List.mem_append_right _ (List.mem_append_right _ (List.mem_append_right _ (List.mem_append_left _ h)))))))))))))
theorem Q4_9i {w : Cond} (h : w ∈ Q4_9) : w ∈ lw_tbl := List.mem_append_right _ (List.mem_append_right _ (List.mem_append_right _ (List.mem_append_right _ (List.mem_append_left _ (by rw [Qe4]; exact List.mem_append_right _ (List.mem_append_right _ (List.mem_append_right _ (List.mem_append_right _ (List.mem_append_right _ (List.mem_append_right _ (List.mem_append_right _ (List.mem_append_right _ (List.mem_append_right _ (List.mem_append_left _ h))))))))))))))
theorem Q4_10i {w : Cond} (h : w ∈ Q4_10) : w ∈ lw_tbl := List.mem_append_right _ (List.mem_append_right _ (List.mem_append_right _ (List.mem_append_right _ (List.mem_append_left _ (by rw [Qe4]; exact List.mem_append_right _ (List.mem_append_right _ (List.mem_append_right _ (List.mem_append_right _ (List.mem_append_right _ (List.mem_append_right _ (List.mem_append_right _ (List.mem_append_right _ (List.mem_append_right _ (List.mem_append_right _ (List.mem_append_left _ h)))))))))))))))
theorem Q4_11i {w : Cond} (h : w ∈ Q4_11) : w ∈ lw_tbl := List.mem_append_right _ (List.mem_append_right _ (List.mem_append_right _ (List.mem_append_right _ (List.mem_append_left _ (by rw [Qe4]; exact List.mem_append_right _ (List.mem_append_right _ (List.mem_append_right _ (List.mem_append_right _ (List.mem_append_right _ (List.mem_append_right _ (List.mem_append_right _ (List.mem_append_right _ (List.mem_append_right _ (List.mem_append_right _ (List.mem_append_right _ (List.mem_append_left _ h))))))))))))))))
theorem Q4_12i {w : Cond} (h : w ∈ Q4_12) : w ∈ lw_tbl := List.mem_append_right _ (List.mem_append_right _ (List.mem_append_right _ (List.mem_append_right _ (List.mem_append_left _ (by rw [Qe4]; exact List.mem_append_right _ (List.mem_append_right _ (List.mem_append_right _ (List.mem_append_right _ (List.mem_append_right _ (List.mem_append_right _ (List.mem_append_right _ (List.mem_append_right _ (List.mem_append_right _ (List.mem_append_right _ (List.mem_append_right _ (List.mem_append_right _ (List.mem_append_left _ h)))))))))))))))))
theorem Q4_13i {w : Cond} (h : w ∈ Q4_13) : w ∈ lw_tbl := List.mem_append_right _ (List.mem_append_right _ (List.mem_append_right _ (List.mem_append_right _ (List.mem_append_left _ (by rw [Qe4]; exact List.mem_append_right _ (List.mem_append_right _ (List.mem_append_right _ (List.mem_append_right _ (List.mem_append_right _ (List.mem_append_right _ (List.mem_append_right _ (List.mem_append_right _ (List.mem_append_right _ (List.mem_append_right _ (List.mem_append_right _ (List.mem_append_right _ (List.mem_append_right _ (List.mem_append_left _ h))))))))))))))))))
theorem Q4_14i {w : Cond} (h : w ∈ Q4_14) : w ∈ lw_tbl := List.mem_append_right _ (List.mem_append_right _ (List.mem_append_right _ (List.mem_append_right _ (List.mem_append_left _ (by rw [Qe4]; exact List.mem_append_right _ (List.mem_append_right _ (List.mem_append_right _ (List.mem_append_right _ (List.mem_append_right _ (List.mem_append_right _ (List.mem_append_right _ (List.mem_append_right _ (List.mem_append_right _ (List.mem_append_right _ (List.mem_append_right _ (List.mem_append_right _ (List.mem_append_right _ (List.mem_append_right _ (h)))))))))))))))))))
def Q5_0 : List Cond := [Cond.methodLink RX6 147 yX6_keep, Cond.privateMethod yX6_keep, Cond.instanceMethod yX6_keep, Cond.code yX6_keep cX6_keep 10 none, Cond.methodLink RL 134 yX6_servers, Cond.instanceMethod yX6_servers, Cond.selects RX6 yX6_servers yX6_servers, Cond.code yX6_servers cX6_servers 1 (some .int), Cond.methodLink RL 137 yX6_samples, Cond.instanceMethod yX6_samples, Cond.selects RX6 yX6_samples yX6_samples, Cond.code yX6_samples cX6_samples 2 (some .int), Cond.methodLink RL 140 yX6_offset, Cond.instanceMethod yX6_offset, Cond.selects RX6 yX6_offset yX6_offset, Cond.code yX6_offset cX6_offset 2 (some .long)]
def Q5_1 : List Cond := [Cond.methodLink RX6 162 yX6_noSample, Cond.privateMethod yX6_noSample, Cond.instanceMethod yX6_noSample, Cond.code yX6_noSample cX6_noSample 2 (some .boolean), Cond.methodLink RX6 151 yX6_best, Cond.privateMethod yX6_best, Cond.instanceMethod yX6_best, Cond.code yX6_best cX6_best 4 (some .int), Cond.methodLink RL 143 yX6_delay, Cond.instanceMethod yX6_delay, Cond.selects RX6 yX6_delay yX6_delay, Cond.code yX6_delay cX6_delay 2 (some .long), Cond.methodLink RL 146 yX6_jitter, Cond.instanceMethod yX6_jitter, Cond.selects RX6 yX6_jitter yX6_jitter, Cond.code yX6_jitter cX6_jitter 2 (some .long)]
def Q5_2 : List Cond := [Cond.methodLink RX6 157 yX6_jitterOf, Cond.privateMethod yX6_jitterOf, Cond.instanceMethod yX6_jitterOf, Cond.code yX6_jitterOf cX6_jitterOf 5 (some .long), Cond.methodLink RX6 154 yX6_size, Cond.static yX6_size, Cond.code yX6_size cX6_size 2 (some .long), Cond.methodLink RL 149 yX6_distance, Cond.instanceMethod yX6_distance, Cond.selects RX6 yX6_distance yX6_distance, Cond.code yX6_distance cX6_distance 2 (some .long), Cond.methodLink RX6 165 yX6_distanceOf, Cond.privateMethod yX6_distanceOf, Cond.instanceMethod yX6_distanceOf, Cond.code yX6_distanceOf cX6_distanceOf 3 (some .long), Cond.constantLong RX6 160 (15)]
def Q5_3 : List Cond := [Cond.methodLink RL 153 yX6_agreement, Cond.instanceMethod yX6_agreement, Cond.selects RX6 yX6_agreement yX6_agreement, Cond.code yX6_agreement cX6_agreement 1 (some .int), Cond.methodLink RX6 201 yX6_intersect, Cond.privateMethod yX6_intersect, Cond.instanceMethod yX6_intersect, Cond.code yX6_intersect cX6_intersect 4 none, Cond.methodLink RX6 168 yX6_from, Cond.privateMethod yX6_from, Cond.instanceMethod yX6_from, Cond.code yX6_from cX6_from 2 (some .long), Cond.methodLink RX6 184 yX6_covers, Cond.privateMethod yX6_covers, Cond.instanceMethod yX6_covers, Cond.code yX6_covers cX6_covers 5 (some .int)]
def Q5_4 : List Cond := [Cond.methodLink RX6 174 yX6_has, Cond.privateMethod yX6_has, Cond.instanceMethod yX6_has, Cond.code yX6_has cX6_has 4 (some .boolean), Cond.methodLink RX6 171 yX6_to, Cond.privateMethod yX6_to, Cond.instanceMethod yX6_to, Cond.code yX6_to cX6_to 2 (some .long), Cond.methodLink RL 158 yX6_hasMajority, Cond.instanceMethod yX6_hasMajority, Cond.selects RX6 yX6_hasMajority yX6_hasMajority, Cond.code yX6_hasMajority cX6_hasMajority 1 (some .boolean), Cond.methodLink RL 162 yX6_agreeing, Cond.instanceMethod yX6_agreeing, Cond.selects RX6 yX6_agreeing yX6_agreeing, Cond.code yX6_agreeing cX6_agreeing 1 (some .int)]
def Q5_5 : List Cond := [Cond.methodLink RX6 208 yX6_set, Cond.static yX6_set, Cond.code yX6_set cX6_set 3 (some .int), Cond.methodLink RL 166 yX6_low, Cond.instanceMethod yX6_low, Cond.selects RX6 yX6_low yX6_low, Cond.code yX6_low cX6_low 1 (some .long), Cond.methodLink RL 169 yX6_high, Cond.instanceMethod yX6_high, Cond.selects RX6 yX6_high yX6_high, Cond.code yX6_high cX6_high 1 (some .long), Cond.methodLink RL 173 yX6_survivors, Cond.instanceMethod yX6_survivors, Cond.selects RX6 yX6_survivors yX6_survivors, Cond.code yX6_survivors cX6_survivors 1 (some .int), Cond.methodLink RX6 212 yX6_select]
def Q5_6 : List Cond := [Cond.privateMethod yX6_select, Cond.instanceMethod yX6_select, Cond.code yX6_select cX6_select 2 none, Cond.methodLink RX6 194 yX6_surviving, Cond.privateMethod yX6_surviving, Cond.instanceMethod yX6_surviving, Cond.code yX6_surviving cX6_surviving 3 (some .int), Cond.methodLink RX6 204 yX6_removes, Cond.privateMethod yX6_removes, Cond.instanceMethod yX6_removes, Cond.code yX6_removes cX6_removes 6 (some .boolean), Cond.methodLink RX6 198 yX6_spread, Cond.privateMethod yX6_spread, Cond.instanceMethod yX6_spread, Cond.code yX6_spread cX6_spread 5 (some .long), Cond.methodLink RL 176 yX6_combinedOffset]
def Q5_7 : List Cond := [Cond.instanceMethod yX6_combinedOffset, Cond.selects RX6 yX6_combinedOffset yX6_combinedOffset, Cond.code yX6_combinedOffset cX6_combinedOffset 1 (some .long), Cond.methodLink RX6 215 yX6_combined, Cond.privateMethod yX6_combined, Cond.instanceMethod yX6_combined, Cond.code yX6_combined cX6_combined 8 (some .long), Cond.methodLink RL 180 yX6_peer, Cond.instanceMethod yX6_peer, Cond.selects RX6 yX6_peer yX6_peer, Cond.code yX6_peer cX6_peer 1 (some .int), Cond.methodLink RX6 218 yX6_leader, Cond.privateMethod yX6_leader, Cond.instanceMethod yX6_leader, Cond.code yX6_leader cX6_leader 4 (some .int), Cond.methodLink RL 183 yX6_synchronize]
def Q5_8 : List Cond := [Cond.instanceMethod yX6_synchronize, Cond.selects RX6 yX6_synchronize yX6_synchronize, Cond.code yX6_synchronize cX6_synchronize 7 (some .int), Cond.constantLong RX6 223 (4), Cond.methodLink RX6 225 yX6_held, Cond.static yX6_held, Cond.code yX6_held cX6_held 2 (some .int), Cond.constantLong RX6 221 (-500), Cond.constantLong RX6 228 (128000), Cond.methodLink RL 187 yX6_stratum, Cond.instanceMethod yX6_stratum, Cond.selects RX6 yX6_stratum yX6_stratum, Cond.code yX6_stratum cX6_stratum 1 (some .int), Cond.methodLink RL 191 yX6_steps, Cond.instanceMethod yX6_steps, Cond.selects RX6 yX6_steps yX6_steps]
def Q5_9 : List Cond := [Cond.code yX6_steps cX6_steps 1 (some .int), Cond.methodLink RL 195 yX6_synchronizations, Cond.instanceMethod yX6_synchronizations, Cond.selects RX6 yX6_synchronizations yX6_synchronizations, Cond.code yX6_synchronizations cX6_synchronizations 1 (some .int), Cond.sameMethod "java/lang/Throwable" "java/lang/Throwable" "fillInStackTrace" "(I)Ljava/lang/Throwable;"]
set_option maxRecDepth 100000 in
theorem Qe5 : tables_1_5 = Q5_0 ++ (Q5_1 ++ (Q5_2 ++ (Q5_3 ++ (Q5_4 ++ (Q5_5 ++ (Q5_6 ++ (Q5_7 ++ (Q5_8 ++ (Q5_9))))))))) := rfl
theorem Q5_0i {w : Cond} (h : w ∈ Q5_0) : w ∈ lw_tbl := List.mem_append_right _ (List.mem_append_right _ (List.mem_append_right _ (List.mem_append_right _ (List.mem_append_right _ (by rw [Qe5]; exact List.mem_append_left _ h)))))
theorem Q5_1i {w : Cond} (h : w ∈ Q5_1) : w ∈ lw_tbl := List.mem_append_right _ (List.mem_append_right _ (List.mem_append_right _ (List.mem_append_right _ (List.mem_append_right _ (by rw [Qe5]; exact List.mem_append_right _ (List.mem_append_left _ h))))))
theorem Q5_2i {w : Cond} (h : w ∈ Q5_2) : w ∈ lw_tbl := List.mem_append_right _ (List.mem_append_right _ (List.mem_append_right _ (List.mem_append_right _ (List.mem_append_right _ (by rw [Qe5]; exact List.mem_append_right _ (List.mem_append_right _ (List.mem_append_left _ h)))))))
theorem Q5_3i {w : Cond} (h : w ∈ Q5_3) : w ∈ lw_tbl := List.mem_append_right _ (List.mem_append_right _ (List.mem_append_right _ (List.mem_append_right _ (List.mem_append_right _ (by rw [Qe5]; exact List.mem_append_right _ (List.mem_append_right _ (List.mem_append_right _ (List.mem_append_left _ h))))))))
theorem Q5_4i {w : Cond} (h : w ∈ Q5_4) : w ∈ lw_tbl := List.mem_append_right _ (List.mem_append_right _ (List.mem_append_right _ (List.mem_append_right _ (List.mem_append_right _ (by rw [Qe5]; exact List.mem_append_right _ (List.mem_append_right _ (List.mem_append_right _ (List.mem_append_right _ (List.mem_append_left _ h)))))))))
theorem Q5_5i {w : Cond} (h : w ∈ Q5_5) : w ∈ lw_tbl := List.mem_append_right _ (List.mem_append_right _ (List.mem_append_right _ (List.mem_append_right _ (List.mem_append_right _ (by rw [Qe5]; exact List.mem_append_right _ (List.mem_append_right _ (List.mem_append_right _ (List.mem_append_right _ (List.mem_append_right _ (List.mem_append_left _ h))))))))))
theorem Q5_6i {w : Cond} (h : w ∈ Q5_6) : w ∈ lw_tbl := List.mem_append_right _ (List.mem_append_right _ (List.mem_append_right _ (List.mem_append_right _ (List.mem_append_right _ (by rw [Qe5]; exact List.mem_append_right _ (List.mem_append_right _ (List.mem_append_right _ (List.mem_append_right _ (List.mem_append_right _ (List.mem_append_right _ (List.mem_append_left _ h)))))))))))
theorem Q5_7i {w : Cond} (h : w ∈ Q5_7) : w ∈ lw_tbl := List.mem_append_right _ (List.mem_append_right _ (List.mem_append_right _ (List.mem_append_right _ (List.mem_append_right _ (by rw [Qe5]; exact List.mem_append_right _ (List.mem_append_right _ (List.mem_append_right _ (List.mem_append_right _ (List.mem_append_right _ (List.mem_append_right _ (List.mem_append_right _ (List.mem_append_left _ h))))))))))))
theorem Q5_8i {w : Cond} (h : w ∈ Q5_8) : w ∈ lw_tbl := List.mem_append_right _ (List.mem_append_right _ (List.mem_append_right _ (List.mem_append_right _ (List.mem_append_right _ (by rw [Qe5]; exact List.mem_append_right _ (List.mem_append_right _ (List.mem_append_right _ (List.mem_append_right _ (List.mem_append_right _ (List.mem_append_right _ (List.mem_append_right _ (List.mem_append_right _ (List.mem_append_left _ h)))))))))))))
theorem Q5_9i {w : Cond} (h : w ∈ Q5_9) : w ∈ lw_tbl := List.mem_append_right _ (List.mem_append_right _ (List.mem_append_right _ (List.mem_append_right _ (List.mem_append_right _ (by rw [Qe5]; exact List.mem_append_right _ (List.mem_append_right _ (List.mem_append_right _ (List.mem_append_right _ (List.mem_append_right _ (List.mem_append_right _ (List.mem_append_right _ (List.mem_append_right _ (List.mem_append_right _ (h))))))))))))))
theorem q_0 : Cond.selects RX5 yX5_begin yX5_begin ∈ AG := List.mem_filter.mpr ⟨Q0_0i (List.mem_of_getElem? (i := 0) rfl), rfl⟩
theorem q_1 : Cond.selects RX5 yX5_select yX5_select ∈ AG := List.mem_filter.mpr ⟨Q0_0i (List.mem_of_getElem? (i := 1) rfl), rfl⟩
theorem q_2 : Cond.selects RX5 yX5_serverOrNull yX5_serverOrNull ∈ AG := List.mem_filter.mpr ⟨Q0_0i (List.mem_of_getElem? (i := 2) rfl), rfl⟩
theorem q_3 : Cond.selects RX5 yX5_roomOrNull yX5_roomOrNull ∈ AG := List.mem_filter.mpr ⟨Q0_0i (List.mem_of_getElem? (i := 3) rfl), rfl⟩
theorem q_4 : Cond.selects RX3 yX3_tryLowEnd yX3_tryLowEnd ∈ AG := List.mem_filter.mpr ⟨Q0_0i (List.mem_of_getElem? (i := 4) rfl), rfl⟩
theorem q_5 : Cond.selects RX3 yX3_intervalsWith yX3_intervalsWith ∈ AG := List.mem_filter.mpr ⟨Q0_0i (List.mem_of_getElem? (i := 5) rfl), rfl⟩
theorem q_6 : Cond.selects RX3 yX3_leastUpperEnd yX3_leastUpperEnd ∈ AG := List.mem_filter.mpr ⟨Q0_0i (List.mem_of_getElem? (i := 6) rfl), rfl⟩
theorem q_7 : Cond.selects RX3 yX3_widestSpread yX3_widestSpread ∈ AG := List.mem_filter.mpr ⟨Q0_0i (List.mem_of_getElem? (i := 7) rfl), rfl⟩
theorem q_8 : Cond.selects RX3 yX3_spread yX3_spread ∈ AG := List.mem_filter.mpr ⟨Q0_0i (List.mem_of_getElem? (i := 8) rfl), rfl⟩
theorem q_9 : Cond.selects RX3 yX3_leastJitter yX3_leastJitter ∈ AG := List.mem_filter.mpr ⟨Q0_0i (List.mem_of_getElem? (i := 9) rfl), rfl⟩
theorem q_10 : Cond.selects RX3 yX3_isBetter yX3_isBetter ∈ AG := List.mem_filter.mpr ⟨Q0_0i (List.mem_of_getElem? (i := 10) rfl), rfl⟩
theorem q_11 : Cond.selects "java/lang/Throwable" ⟨"java/lang/Throwable", "fillInStackTrace", "(I)Ljava/lang/Throwable;"⟩ ⟨"java/lang/Throwable", "fillInStackTrace", "(I)Ljava/lang/Throwable;"⟩ ∈ AG := List.mem_filter.mpr ⟨Q0_0i (List.mem_of_getElem? (i := 11) rfl), rfl⟩
theorem q_12 : Cond.selects RX5 yX5_isBeyondLastTrueTime yX5_isBeyondLastTrueTime ∈ AG := List.mem_filter.mpr ⟨Q0_0i (List.mem_of_getElem? (i := 12) rfl), rfl⟩
theorem q_13 : Cond.selects RX5 yX5_elapse yX5_elapse ∈ AG := List.mem_filter.mpr ⟨Q0_0i (List.mem_of_getElem? (i := 13) rfl), rfl⟩
theorem q_14 : Cond.selects RX5 yX5_knownServer yX5_knownServer ∈ AG := List.mem_filter.mpr ⟨Q0_0i (List.mem_of_getElem? (i := 14) rfl), rfl⟩
theorem q_15 : Cond.selects RX5 yX5_takeSample yX5_takeSample ∈ AG := List.mem_filter.mpr ⟨Q0_0i (List.mem_of_getElem? (i := 15) rfl), rfl⟩
theorem q_16 : Cond.selects RX4 yX4_leastDelay yX4_leastDelay ∈ AG := List.mem_filter.mpr ⟨Q0_1i (List.mem_of_getElem? (i := 0) rfl), rfl⟩
theorem q_17 : Cond.selects RX5 yX5_heardServer yX5_heardServer ∈ AG := List.mem_filter.mpr ⟨Q0_1i (List.mem_of_getElem? (i := 1) rfl), rfl⟩
theorem q_18 : Cond.selects RX5 yX5_selectFromSome yX5_selectFromSome ∈ AG := List.mem_filter.mpr ⟨Q0_1i (List.mem_of_getElem? (i := 2) rfl), rfl⟩
theorem q_19 : Cond.selects RX3 yX3_weight yX3_weight ∈ AG := List.mem_filter.mpr ⟨Q0_1i (List.mem_of_getElem? (i := 3) rfl), rfl⟩
theorem q_20 : Cond.selects RX5 yX5_correctRate yX5_correctRate ∈ AG := List.mem_filter.mpr ⟨Q0_1i (List.mem_of_getElem? (i := 4) rfl), rfl⟩
theorem q_21 : Cond.selects RX5 yX5_correctTime yX5_correctTime ∈ AG := List.mem_filter.mpr ⟨Q0_1i (List.mem_of_getElem? (i := 5) rfl), rfl⟩
theorem q_22 : Cond.selects RX5 yX5_takeStratumOfPeer yX5_takeStratumOfPeer ∈ AG := List.mem_filter.mpr ⟨Q0_1i (List.mem_of_getElem? (i := 6) rfl), rfl⟩
theorem q_23 : Cond.selects RX5 yX5_forgetSamples yX5_forgetSamples ∈ AG := List.mem_filter.mpr ⟨Q0_1i (List.mem_of_getElem? (i := 7) rfl), rfl⟩
theorem q_24 : Cond.selects RX6 yX6_refused yX6_refused ∈ AG := List.mem_filter.mpr ⟨Q0_1i (List.mem_of_getElem? (i := 8) rfl), rfl⟩
theorem q_25 : Cond.selects RX6 yX6_goOn yX6_goOn ∈ AG := List.mem_filter.mpr ⟨Q0_1i (List.mem_of_getElem? (i := 9) rfl), rfl⟩
theorem q_26 : Cond.selects RX6 yX6_reading yX6_reading ∈ AG := List.mem_filter.mpr ⟨Q0_1i (List.mem_of_getElem? (i := 10) rfl), rfl⟩
theorem q_27 : Cond.selects RX6 yX6_fineLong yX6_fineLong ∈ AG := List.mem_filter.mpr ⟨Q0_1i (List.mem_of_getElem? (i := 11) rfl), rfl⟩
theorem q_28 : Cond.selects RX6 yX6_fine yX6_fine ∈ AG := List.mem_filter.mpr ⟨Q0_1i (List.mem_of_getElem? (i := 12) rfl), rfl⟩
theorem q_29 : Cond.selects RX6 yX6_isServer yX6_isServer ∈ AG := List.mem_filter.mpr ⟨Q0_1i (List.mem_of_getElem? (i := 13) rfl), rfl⟩
theorem q_30 : Cond.selects RX6 yX6_keep yX6_keep ∈ AG := List.mem_filter.mpr ⟨Q0_1i (List.mem_of_getElem? (i := 14) rfl), rfl⟩
theorem q_31 : Cond.selects RX6 yX6_noSample yX6_noSample ∈ AG := List.mem_filter.mpr ⟨Q0_1i (List.mem_of_getElem? (i := 15) rfl), rfl⟩
theorem q_32 : Cond.selects RX6 yX6_best yX6_best ∈ AG := List.mem_filter.mpr ⟨Q0_2i (List.mem_of_getElem? (i := 0) rfl), rfl⟩
theorem q_33 : Cond.selects RX6 yX6_jitterOf yX6_jitterOf ∈ AG := List.mem_filter.mpr ⟨Q0_2i (List.mem_of_getElem? (i := 1) rfl), rfl⟩
theorem q_34 : Cond.selects RX6 yX6_distanceOf yX6_distanceOf ∈ AG := List.mem_filter.mpr ⟨Q0_2i (List.mem_of_getElem? (i := 2) rfl), rfl⟩
theorem q_35 : Cond.selects RX6 yX6_intersect yX6_intersect ∈ AG := List.mem_filter.mpr ⟨Q0_2i (List.mem_of_getElem? (i := 3) rfl), rfl⟩
theorem q_36 : Cond.selects RX6 yX6_from yX6_from ∈ AG := List.mem_filter.mpr ⟨Q0_2i (List.mem_of_getElem? (i := 4) rfl), rfl⟩
theorem q_37 : Cond.selects RX6 yX6_covers yX6_covers ∈ AG := List.mem_filter.mpr ⟨Q0_2i (List.mem_of_getElem? (i := 5) rfl), rfl⟩
theorem q_38 : Cond.selects RX6 yX6_has yX6_has ∈ AG := List.mem_filter.mpr ⟨Q0_2i (List.mem_of_getElem? (i := 6) rfl), rfl⟩
theorem q_39 : Cond.selects RX6 yX6_to yX6_to ∈ AG := List.mem_filter.mpr ⟨Q0_2i (List.mem_of_getElem? (i := 7) rfl), rfl⟩
theorem q_40 : Cond.selects RX6 yX6_select yX6_select ∈ AG := List.mem_filter.mpr ⟨Q0_2i (List.mem_of_getElem? (i := 8) rfl), rfl⟩
theorem q_41 : Cond.selects RX6 yX6_surviving yX6_surviving ∈ AG := List.mem_filter.mpr ⟨Q0_2i (List.mem_of_getElem? (i := 9) rfl), rfl⟩
theorem q_42 : Cond.selects RX6 yX6_removes yX6_removes ∈ AG := List.mem_filter.mpr ⟨Q0_2i (List.mem_of_getElem? (i := 10) rfl), rfl⟩
theorem q_43 : Cond.selects RX6 yX6_spread yX6_spread ∈ AG := List.mem_filter.mpr ⟨Q0_2i (List.mem_of_getElem? (i := 11) rfl), rfl⟩
theorem q_44 : Cond.selects RX6 yX6_combined yX6_combined ∈ AG := List.mem_filter.mpr ⟨Q0_2i (List.mem_of_getElem? (i := 12) rfl), rfl⟩
theorem q_45 : Cond.selects RX6 yX6_leader yX6_leader ∈ AG := List.mem_filter.mpr ⟨Q0_2i (List.mem_of_getElem? (i := 13) rfl), rfl⟩
theorem q_46 : Cond.initialized RL ∈ AG := List.mem_filter.mpr ⟨Q1_0i (List.mem_of_getElem? (i := 0) rfl), rfl⟩
theorem q_47 : Cond.initialized RX5 ∈ AG := List.mem_filter.mpr ⟨Q1_0i (List.mem_of_getElem? (i := 1) rfl), rfl⟩
theorem q_48 : Cond.initialized RX1 ∈ AG := List.mem_filter.mpr ⟨Q1_0i (List.mem_of_getElem? (i := 2) rfl), rfl⟩
theorem q_49 : Cond.initialized RX0 ∈ AG := List.mem_filter.mpr ⟨Q1_0i (List.mem_of_getElem? (i := 3) rfl), rfl⟩
theorem q_50 : Cond.initialized RX3 ∈ AG := List.mem_filter.mpr ⟨Q1_0i (List.mem_of_getElem? (i := 4) rfl), rfl⟩
theorem q_51 : Cond.initialized RX2 ∈ AG := List.mem_filter.mpr ⟨Q1_0i (List.mem_of_getElem? (i := 5) rfl), rfl⟩
theorem q_52 : Cond.initialized RX4 ∈ AG := List.mem_filter.mpr ⟨Q1_0i (List.mem_of_getElem? (i := 6) rfl), rfl⟩
theorem q_53 : Cond.initialized RX6 ∈ AG := List.mem_filter.mpr ⟨Q1_0i (List.mem_of_getElem? (i := 7) rfl), rfl⟩
theorem q_54 : Cond.initialized "java/lang/Throwable" ∈ AG := List.mem_filter.mpr ⟨Q1_0i (List.mem_of_getElem? (i := 8) rfl), rfl⟩
theorem q_55 : Cond.initialized "java/lang/Exception" ∈ AG := List.mem_filter.mpr ⟨Q1_0i (List.mem_of_getElem? (i := 9) rfl), rfl⟩
theorem q_56 : Cond.initialized "java/lang/RuntimeException" ∈ AG := List.mem_filter.mpr ⟨Q1_0i (List.mem_of_getElem? (i := 10) rfl), rfl⟩
theorem q_57 : Cond.initialized "java/lang/IllegalArgumentException" ∈ AG := List.mem_filter.mpr ⟨Q1_0i (List.mem_of_getElem? (i := 11) rfl), rfl⟩
theorem q_58 : Cond.initialized "java/lang/IllegalStateException" ∈ AG := List.mem_filter.mpr ⟨Q1_0i (List.mem_of_getElem? (i := 12) rfl), rfl⟩
theorem q_59 : Cond.initialized RJ9 ∈ AG := List.mem_filter.mpr ⟨Q1_0i (List.mem_of_getElem? (i := 13) rfl), rfl⟩
theorem q_60 : Cond.initialized "java/lang/IndexOutOfBoundsException" ∈ AG := List.mem_filter.mpr ⟨Q1_0i (List.mem_of_getElem? (i := 14) rfl), rfl⟩
theorem q_61 : Cond.initialized RJ6 ∈ AG := List.mem_filter.mpr ⟨Q1_0i (List.mem_of_getElem? (i := 15) rfl), rfl⟩
theorem q_62 : Cond.classLink RL 8 RX5 ∈ AG := List.mem_filter.mpr ⟨Q1_1i (List.mem_of_getElem? (i := 0) rfl), rfl⟩
theorem q_63 : Cond.instantiable RX5 10 ∈ AG := List.mem_filter.mpr ⟨Q1_1i (List.mem_of_getElem? (i := 1) rfl), rfl⟩
theorem q_64 : Cond.methodLink RL 72 yX5_init ∈ AG := List.mem_filter.mpr ⟨Q1_1i (List.mem_of_getElem? (i := 2) rfl), rfl⟩
theorem q_65 : Cond.instanceMethod yX5_init ∈ AG := List.mem_filter.mpr ⟨Q1_1i (List.mem_of_getElem? (i := 3) rfl), rfl⟩
theorem q_66 : Cond.code yX5_init cX5_init 2 none ∈ AG := List.mem_filter.mpr ⟨Q1_1i (List.mem_of_getElem? (i := 4) rfl), rfl⟩
theorem q_67 : Cond.methodLink RX5 1 objectInit ∈ AG := List.mem_filter.mpr ⟨Q1_1i (List.mem_of_getElem? (i := 5) rfl), rfl⟩
theorem q_68 : Cond.instanceMethod objectInit ∈ AG := List.mem_filter.mpr ⟨Q1_1i (List.mem_of_getElem? (i := 6) rfl), rfl⟩
theorem q_69 : Cond.code objectInit ⟨#[0xb1]⟩ 1 none ∈ AG := List.mem_filter.mpr ⟨Q1_1i (List.mem_of_getElem? (i := 7) rfl), rfl⟩
theorem q_70 : Cond.classLink RX5 7 RX1 ∈ AG := List.mem_filter.mpr ⟨Q1_1i (List.mem_of_getElem? (i := 8) rfl), rfl⟩
theorem q_71 : Cond.instantiable RX1 4 ∈ AG := List.mem_filter.mpr ⟨Q1_1i (List.mem_of_getElem? (i := 9) rfl), rfl⟩
theorem q_73 : Cond.instanceMethod yX1_init ∈ AG := List.mem_filter.mpr ⟨Q1_1i (List.mem_of_getElem? (i := 11) rfl), rfl⟩
theorem q_74 : Cond.code yX1_init cX1_init 1 none ∈ AG := List.mem_filter.mpr ⟨Q1_1i (List.mem_of_getElem? (i := 12) rfl), rfl⟩
theorem q_75 : Cond.methodLink RX1 3 objectInit ∈ AG := List.mem_filter.mpr ⟨Q1_1i (List.mem_of_getElem? (i := 13) rfl), rfl⟩
theorem q_76 : Cond.fieldLink RX1 11 "Clockhouse$Oscillator" "picos" "J" ∈ AG := List.mem_filter.mpr ⟨Q1_1i (List.mem_of_getElem? (i := 14) rfl), rfl⟩
theorem q_77 : Cond.fieldLink RX1 17 "Clockhouse$Oscillator" "pendingPicos" "J" ∈ AG := List.mem_filter.mpr ⟨Q1_1i (List.mem_of_getElem? (i := 15) rfl), rfl⟩
theorem q_78 : Cond.fieldLink RX1 20 "Clockhouse$Oscillator" "driftRate" "I" ∈ AG := List.mem_filter.mpr ⟨Q1_2i (List.mem_of_getElem? (i := 0) rfl), rfl⟩
theorem q_79 : Cond.fieldLink RX1 24 "Clockhouse$Oscillator" "correctionRate" "I" ∈ AG := List.mem_filter.mpr ⟨Q1_2i (List.mem_of_getElem? (i := 1) rfl), rfl⟩
theorem q_89 : Cond.classLink RX5 16 RX0 ∈ AG := List.mem_filter.mpr ⟨Q1_2i (List.mem_of_getElem? (i := 11) rfl), rfl⟩
theorem q_90 : Cond.instantiable RX0 2 ∈ AG := List.mem_filter.mpr ⟨Q1_2i (List.mem_of_getElem? (i := 12) rfl), rfl⟩
theorem q_92 : Cond.instanceMethod yX0_init ∈ AG := List.mem_filter.mpr ⟨Q1_2i (List.mem_of_getElem? (i := 14) rfl), rfl⟩
theorem q_93 : Cond.code yX0_init cX0_init 1 none ∈ AG := List.mem_filter.mpr ⟨Q1_2i (List.mem_of_getElem? (i := 15) rfl), rfl⟩
theorem q_94 : Cond.methodLink RX0 1 objectInit ∈ AG := List.mem_filter.mpr ⟨Q1_3i (List.mem_of_getElem? (i := 0) rfl), rfl⟩
theorem q_95 : Cond.fieldLink RX0 13 "Clockhouse$LeapSeconds" "inserted" "I" ∈ AG := List.mem_filter.mpr ⟨Q1_3i (List.mem_of_getElem? (i := 1) rfl), rfl⟩
theorem q_96 : Cond.fieldLink RX0 17 "Clockhouse$LeapSeconds" "deleted" "I" ∈ AG := List.mem_filter.mpr ⟨Q1_3i (List.mem_of_getElem? (i := 2) rfl), rfl⟩
theorem q_102 : Cond.classLink RX5 23 RX4 ∈ AG := List.mem_filter.mpr ⟨Q1_3i (List.mem_of_getElem? (i := 8) rfl), rfl⟩
theorem q_104 : Cond.classLink RX5 29 RX3 ∈ AG := List.mem_filter.mpr ⟨Q1_3i (List.mem_of_getElem? (i := 10) rfl), rfl⟩
theorem q_105 : Cond.instantiable RX3 9 ∈ AG := List.mem_filter.mpr ⟨Q1_3i (List.mem_of_getElem? (i := 11) rfl), rfl⟩
theorem q_107 : Cond.instanceMethod yX3_init ∈ AG := List.mem_filter.mpr ⟨Q1_3i (List.mem_of_getElem? (i := 13) rfl), rfl⟩
theorem q_108 : Cond.code yX3_init cX3_init 1 none ∈ AG := List.mem_filter.mpr ⟨Q1_3i (List.mem_of_getElem? (i := 14) rfl), rfl⟩
theorem q_109 : Cond.methodLink RX3 3 objectInit ∈ AG := List.mem_filter.mpr ⟨Q1_3i (List.mem_of_getElem? (i := 15) rfl), rfl⟩
theorem q_110 : Cond.classLink RX3 9 RX2 ∈ AG := List.mem_filter.mpr ⟨Q1_4i (List.mem_of_getElem? (i := 0) rfl), rfl⟩
theorem q_111 : Cond.instantiable RX2 1 ∈ AG := List.mem_filter.mpr ⟨Q1_4i (List.mem_of_getElem? (i := 1) rfl), rfl⟩
theorem q_113 : Cond.instanceMethod yX2_init ∈ AG := List.mem_filter.mpr ⟨Q1_4i (List.mem_of_getElem? (i := 3) rfl), rfl⟩
theorem q_114 : Cond.code yX2_init cX2_init 1 none ∈ AG := List.mem_filter.mpr ⟨Q1_4i (List.mem_of_getElem? (i := 4) rfl), rfl⟩
theorem q_115 : Cond.methodLink RX2 1 objectInit ∈ AG := List.mem_filter.mpr ⟨Q1_4i (List.mem_of_getElem? (i := 5) rfl), rfl⟩
theorem q_116 : Cond.fieldLink RX2 9 "Clockhouse$Row" "cells" "[J" ∈ AG := List.mem_filter.mpr ⟨Q1_4i (List.mem_of_getElem? (i := 6) rfl), rfl⟩
theorem q_120 : Cond.arrayClass .long ∈ AG := List.mem_filter.mpr ⟨Q1_4i (List.mem_of_getElem? (i := 10) rfl), rfl⟩
theorem q_121 : Cond.fieldLink RX3 12 "Clockhouse$Selection" "offsets" "LClockhouse$Row;" ∈ AG := List.mem_filter.mpr ⟨Q1_4i (List.mem_of_getElem? (i := 11) rfl), rfl⟩
theorem q_122 : Cond.fieldLink RX3 18 "Clockhouse$Selection" "distances" "LClockhouse$Row;" ∈ AG := List.mem_filter.mpr ⟨Q1_4i (List.mem_of_getElem? (i := 12) rfl), rfl⟩
theorem q_123 : Cond.fieldLink RX3 21 "Clockhouse$Selection" "jitters" "LClockhouse$Row;" ∈ AG := List.mem_filter.mpr ⟨Q1_4i (List.mem_of_getElem? (i := 13) rfl), rfl⟩
theorem q_124 : Cond.fieldLink RX3 24 "Clockhouse$Selection" "strata" "LClockhouse$Row;" ∈ AG := List.mem_filter.mpr ⟨Q1_4i (List.mem_of_getElem? (i := 14) rfl), rfl⟩
theorem q_125 : Cond.fieldLink RX3 27 "Clockhouse$Selection" "candidateSet" "I" ∈ AG := List.mem_filter.mpr ⟨Q1_4i (List.mem_of_getElem? (i := 15) rfl), rfl⟩
theorem q_126 : Cond.fieldLink RX3 31 "Clockhouse$Selection" "agreeingSet" "I" ∈ AG := List.mem_filter.mpr ⟨Q1_5i (List.mem_of_getElem? (i := 0) rfl), rfl⟩
theorem q_127 : Cond.fieldLink RX3 34 "Clockhouse$Selection" "survivorSet" "I" ∈ AG := List.mem_filter.mpr ⟨Q1_5i (List.mem_of_getElem? (i := 1) rfl), rfl⟩
theorem q_128 : Cond.fieldLink RX3 37 "Clockhouse$Selection" "lowest" "J" ∈ AG := List.mem_filter.mpr ⟨Q1_5i (List.mem_of_getElem? (i := 2) rfl), rfl⟩
theorem q_129 : Cond.fieldLink RX3 41 "Clockhouse$Selection" "highest" "J" ∈ AG := List.mem_filter.mpr ⟨Q1_5i (List.mem_of_getElem? (i := 3) rfl), rfl⟩
theorem q_149 : Cond.instantiable RX4 9 ∈ AG := List.mem_filter.mpr ⟨Q1_6i (List.mem_of_getElem? (i := 7) rfl), rfl⟩
theorem q_151 : Cond.instanceMethod yX4_init ∈ AG := List.mem_filter.mpr ⟨Q1_6i (List.mem_of_getElem? (i := 9) rfl), rfl⟩
theorem q_152 : Cond.code yX4_init cX4_init 1 none ∈ AG := List.mem_filter.mpr ⟨Q1_6i (List.mem_of_getElem? (i := 10) rfl), rfl⟩
theorem q_153 : Cond.methodLink RX4 3 objectInit ∈ AG := List.mem_filter.mpr ⟨Q1_6i (List.mem_of_getElem? (i := 11) rfl), rfl⟩
theorem q_154 : Cond.classLink RX4 9 RX2 ∈ AG := List.mem_filter.mpr ⟨Q1_6i (List.mem_of_getElem? (i := 12) rfl), rfl⟩
theorem q_156 : Cond.fieldLink RX4 12 "Clockhouse$Server" "offsets" "LClockhouse$Row;" ∈ AG := List.mem_filter.mpr ⟨Q1_6i (List.mem_of_getElem? (i := 14) rfl), rfl⟩
theorem q_157 : Cond.fieldLink RX4 18 "Clockhouse$Server" "delays" "LClockhouse$Row;" ∈ AG := List.mem_filter.mpr ⟨Q1_6i (List.mem_of_getElem? (i := 15) rfl), rfl⟩
theorem q_158 : Cond.fieldLink RX4 21 "Clockhouse$Server" "times" "LClockhouse$Row;" ∈ AG := List.mem_filter.mpr ⟨Q1_7i (List.mem_of_getElem? (i := 0) rfl), rfl⟩
theorem q_159 : Cond.fieldLink RX4 41 "Clockhouse$Server" "count" "I" ∈ AG := List.mem_filter.mpr ⟨Q1_7i (List.mem_of_getElem? (i := 1) rfl), rfl⟩
theorem q_160 : Cond.fieldLink RX4 44 "Clockhouse$Server" "best" "I" ∈ AG := List.mem_filter.mpr ⟨Q1_7i (List.mem_of_getElem? (i := 2) rfl), rfl⟩
theorem q_161 : Cond.fieldLink RX4 24 "Clockhouse$Server" "level" "I" ∈ AG := List.mem_filter.mpr ⟨Q1_7i (List.mem_of_getElem? (i := 3) rfl), rfl⟩
theorem q_162 : Cond.fieldLink RX4 28 "Clockhouse$Server" "clockError" "I" ∈ AG := List.mem_filter.mpr ⟨Q1_7i (List.mem_of_getElem? (i := 4) rfl), rfl⟩
theorem q_163 : Cond.fieldLink RX4 31 "Clockhouse$Server" "rootDelay" "J" ∈ AG := List.mem_filter.mpr ⟨Q1_7i (List.mem_of_getElem? (i := 5) rfl), rfl⟩
theorem q_164 : Cond.fieldLink RX4 35 "Clockhouse$Server" "rootDispersion" "J" ∈ AG := List.mem_filter.mpr ⟨Q1_7i (List.mem_of_getElem? (i := 6) rfl), rfl⟩
theorem q_184 : Cond.methodLink RX5 37 yX5_begin ∈ AG := List.mem_filter.mpr ⟨Q1_8i (List.mem_of_getElem? (i := 10) rfl), rfl⟩
theorem q_186 : Cond.instanceMethod yX5_begin ∈ AG := List.mem_filter.mpr ⟨Q1_8i (List.mem_of_getElem? (i := 12) rfl), rfl⟩
theorem q_187 : Cond.code yX5_begin cX5_begin 2 none ∈ AG := List.mem_filter.mpr ⟨Q1_8i (List.mem_of_getElem? (i := 13) rfl), rfl⟩
theorem q_188 : Cond.methodLink RX5 199 yX1_begin ∈ AG := List.mem_filter.mpr ⟨Q1_8i (List.mem_of_getElem? (i := 14) rfl), rfl⟩
theorem q_189 : Cond.instanceMethod yX1_begin ∈ AG := List.mem_filter.mpr ⟨Q1_8i (List.mem_of_getElem? (i := 15) rfl), rfl⟩
theorem q_190 : Cond.selects RX1 yX1_begin yX1_begin ∈ AG := List.mem_filter.mpr ⟨Q1_9i (List.mem_of_getElem? (i := 0) rfl), rfl⟩
theorem q_191 : Cond.code yX1_begin cX1_begin 2 none ∈ AG := List.mem_filter.mpr ⟨Q1_9i (List.mem_of_getElem? (i := 1) rfl), rfl⟩
theorem q_192 : Cond.constantLong RX1 9 (1000000) ∈ AG := List.mem_filter.mpr ⟨Q1_9i (List.mem_of_getElem? (i := 2) rfl), rfl⟩
theorem q_193 : Cond.methodLink RX5 200 yX0_clear ∈ AG := List.mem_filter.mpr ⟨Q1_9i (List.mem_of_getElem? (i := 3) rfl), rfl⟩
theorem q_194 : Cond.instanceMethod yX0_clear ∈ AG := List.mem_filter.mpr ⟨Q1_9i (List.mem_of_getElem? (i := 4) rfl), rfl⟩
theorem q_195 : Cond.selects RX0 yX0_clear yX0_clear ∈ AG := List.mem_filter.mpr ⟨Q1_9i (List.mem_of_getElem? (i := 5) rfl), rfl⟩
theorem q_196 : Cond.code yX0_clear cX0_clear 1 none ∈ AG := List.mem_filter.mpr ⟨Q1_9i (List.mem_of_getElem? (i := 6) rfl), rfl⟩
theorem q_197 : Cond.fieldLink RX5 10 "Clockhouse" "oscillator" "LClockhouse$Oscillator;" ∈ AG := List.mem_filter.mpr ⟨Q1_9i (List.mem_of_getElem? (i := 7) rfl), rfl⟩
theorem q_198 : Cond.fieldLink RX5 19 "Clockhouse" "leapSeconds" "LClockhouse$LeapSeconds;" ∈ AG := List.mem_filter.mpr ⟨Q1_9i (List.mem_of_getElem? (i := 8) rfl), rfl⟩
theorem q_199 : Cond.fieldLink RX5 25 "Clockhouse" "rooms" "[LClockhouse$Server;" ∈ AG := List.mem_filter.mpr ⟨Q1_9i (List.mem_of_getElem? (i := 9) rfl), rfl⟩
theorem q_200 : Cond.fieldLink RX5 32 "Clockhouse" "selection" "LClockhouse$Selection;" ∈ AG := List.mem_filter.mpr ⟨Q1_9i (List.mem_of_getElem? (i := 10) rfl), rfl⟩
theorem q_201 : Cond.fieldLink RX5 99 "Clockhouse" "serverCount" "I" ∈ AG := List.mem_filter.mpr ⟨Q1_9i (List.mem_of_getElem? (i := 11) rfl), rfl⟩
theorem q_202 : Cond.fieldLink RX5 68 "Clockhouse" "truth" "J" ∈ AG := List.mem_filter.mpr ⟨Q1_9i (List.mem_of_getElem? (i := 12) rfl), rfl⟩
theorem q_203 : Cond.fieldLink RX5 192 "Clockhouse" "clientStratum" "I" ∈ AG := List.mem_filter.mpr ⟨Q1_9i (List.mem_of_getElem? (i := 13) rfl), rfl⟩
theorem q_204 : Cond.fieldLink RX5 195 "Clockhouse" "stepCount" "I" ∈ AG := List.mem_filter.mpr ⟨Q1_9i (List.mem_of_getElem? (i := 14) rfl), rfl⟩
theorem q_205 : Cond.fieldLink RX5 189 "Clockhouse" "synchronizationCount" "I" ∈ AG := List.mem_filter.mpr ⟨Q1_9i (List.mem_of_getElem? (i := 15) rfl), rfl⟩
theorem q_206 : Cond.fieldLink RX5 186 "Clockhouse" "readingBehindSynchronization" "J" ∈ AG := List.mem_filter.mpr ⟨Q1_10i (List.mem_of_getElem? (i := 0) rfl), rfl⟩
theorem q_228 : Cond.methodLink RL 92 yX5_trueTime ∈ AG := List.mem_filter.mpr ⟨Q1_11i (List.mem_of_getElem? (i := 6) rfl), rfl⟩
theorem q_229 : Cond.instanceMethod yX5_trueTime ∈ AG := List.mem_filter.mpr ⟨Q1_11i (List.mem_of_getElem? (i := 7) rfl), rfl⟩
theorem q_230 : Cond.selects RX5 yX5_trueTime yX5_trueTime ∈ AG := List.mem_filter.mpr ⟨Q1_11i (List.mem_of_getElem? (i := 8) rfl), rfl⟩
theorem q_231 : Cond.code yX5_trueTime cX5_trueTime 1 (some .long) ∈ AG := List.mem_filter.mpr ⟨Q1_11i (List.mem_of_getElem? (i := 9) rfl), rfl⟩
theorem q_232 : Cond.methodLink RL 96 yX5_clock ∈ AG := List.mem_filter.mpr ⟨Q1_11i (List.mem_of_getElem? (i := 10) rfl), rfl⟩
theorem q_233 : Cond.instanceMethod yX5_clock ∈ AG := List.mem_filter.mpr ⟨Q1_11i (List.mem_of_getElem? (i := 11) rfl), rfl⟩
theorem q_234 : Cond.selects RX5 yX5_clock yX5_clock ∈ AG := List.mem_filter.mpr ⟨Q1_11i (List.mem_of_getElem? (i := 12) rfl), rfl⟩
theorem q_235 : Cond.code yX5_clock cX5_clock 1 (some .long) ∈ AG := List.mem_filter.mpr ⟨Q1_11i (List.mem_of_getElem? (i := 13) rfl), rfl⟩
theorem q_236 : Cond.methodLink RX5 60 yX1_reading ∈ AG := List.mem_filter.mpr ⟨Q1_11i (List.mem_of_getElem? (i := 14) rfl), rfl⟩
theorem q_237 : Cond.instanceMethod yX1_reading ∈ AG := List.mem_filter.mpr ⟨Q1_11i (List.mem_of_getElem? (i := 15) rfl), rfl⟩
theorem q_238 : Cond.selects RX1 yX1_reading yX1_reading ∈ AG := List.mem_filter.mpr ⟨Q1_12i (List.mem_of_getElem? (i := 0) rfl), rfl⟩
theorem q_239 : Cond.code yX1_reading cX1_reading 1 (some .long) ∈ AG := List.mem_filter.mpr ⟨Q1_12i (List.mem_of_getElem? (i := 1) rfl), rfl⟩
theorem q_240 : Cond.methodLink RX1 27 yJ9_floorDiv_f86c9 ∈ AG := List.mem_filter.mpr ⟨Q1_12i (List.mem_of_getElem? (i := 2) rfl), rfl⟩
theorem q_241 : Cond.static yJ9_floorDiv_f86c9 ∈ AG := List.mem_filter.mpr ⟨Q1_12i (List.mem_of_getElem? (i := 3) rfl), rfl⟩
theorem q_242 : Cond.code yJ9_floorDiv_f86c9 cJ9_floorDiv_f86c9 6 (some .long) ∈ AG := List.mem_filter.mpr ⟨Q1_12i (List.mem_of_getElem? (i := 4) rfl), rfl⟩
theorem q_243 : Cond.methodLink RL 100 yX5_error ∈ AG := List.mem_filter.mpr ⟨Q1_12i (List.mem_of_getElem? (i := 5) rfl), rfl⟩
theorem q_244 : Cond.instanceMethod yX5_error ∈ AG := List.mem_filter.mpr ⟨Q1_12i (List.mem_of_getElem? (i := 6) rfl), rfl⟩
theorem q_245 : Cond.selects RX5 yX5_error yX5_error ∈ AG := List.mem_filter.mpr ⟨Q1_12i (List.mem_of_getElem? (i := 7) rfl), rfl⟩
theorem q_246 : Cond.code yX5_error cX5_error 1 (some .long) ∈ AG := List.mem_filter.mpr ⟨Q1_12i (List.mem_of_getElem? (i := 8) rfl), rfl⟩
theorem q_247 : Cond.methodLink RL 104 yX5_pendingSlew ∈ AG := List.mem_filter.mpr ⟨Q1_12i (List.mem_of_getElem? (i := 9) rfl), rfl⟩
theorem q_248 : Cond.instanceMethod yX5_pendingSlew ∈ AG := List.mem_filter.mpr ⟨Q1_12i (List.mem_of_getElem? (i := 10) rfl), rfl⟩
theorem q_249 : Cond.selects RX5 yX5_pendingSlew yX5_pendingSlew ∈ AG := List.mem_filter.mpr ⟨Q1_12i (List.mem_of_getElem? (i := 11) rfl), rfl⟩
theorem q_250 : Cond.code yX5_pendingSlew cX5_pendingSlew 1 (some .long) ∈ AG := List.mem_filter.mpr ⟨Q1_12i (List.mem_of_getElem? (i := 12) rfl), rfl⟩
theorem q_251 : Cond.methodLink RX5 72 yX1_pendingMicros ∈ AG := List.mem_filter.mpr ⟨Q1_12i (List.mem_of_getElem? (i := 13) rfl), rfl⟩
theorem q_252 : Cond.instanceMethod yX1_pendingMicros ∈ AG := List.mem_filter.mpr ⟨Q1_12i (List.mem_of_getElem? (i := 14) rfl), rfl⟩
theorem q_253 : Cond.selects RX1 yX1_pendingMicros yX1_pendingMicros ∈ AG := List.mem_filter.mpr ⟨Q1_12i (List.mem_of_getElem? (i := 15) rfl), rfl⟩
theorem q_254 : Cond.code yX1_pendingMicros cX1_pendingMicros 1 (some .long) ∈ AG := List.mem_filter.mpr ⟨Q1_13i (List.mem_of_getElem? (i := 0) rfl), rfl⟩
theorem q_255 : Cond.methodLink RL 108 yX5_correction ∈ AG := List.mem_filter.mpr ⟨Q1_13i (List.mem_of_getElem? (i := 1) rfl), rfl⟩
theorem q_256 : Cond.instanceMethod yX5_correction ∈ AG := List.mem_filter.mpr ⟨Q1_13i (List.mem_of_getElem? (i := 2) rfl), rfl⟩
theorem q_257 : Cond.selects RX5 yX5_correction yX5_correction ∈ AG := List.mem_filter.mpr ⟨Q1_13i (List.mem_of_getElem? (i := 3) rfl), rfl⟩
theorem q_258 : Cond.code yX5_correction cX5_correction 1 (some .int) ∈ AG := List.mem_filter.mpr ⟨Q1_13i (List.mem_of_getElem? (i := 4) rfl), rfl⟩
theorem q_259 : Cond.methodLink RX5 75 yX1_presentCorrection ∈ AG := List.mem_filter.mpr ⟨Q1_13i (List.mem_of_getElem? (i := 5) rfl), rfl⟩
theorem q_260 : Cond.instanceMethod yX1_presentCorrection ∈ AG := List.mem_filter.mpr ⟨Q1_13i (List.mem_of_getElem? (i := 6) rfl), rfl⟩
theorem q_261 : Cond.selects RX1 yX1_presentCorrection yX1_presentCorrection ∈ AG := List.mem_filter.mpr ⟨Q1_13i (List.mem_of_getElem? (i := 7) rfl), rfl⟩
theorem q_262 : Cond.code yX1_presentCorrection cX1_presentCorrection 1 (some .int) ∈ AG := List.mem_filter.mpr ⟨Q1_13i (List.mem_of_getElem? (i := 8) rfl), rfl⟩
theorem q_263 : Cond.methodLink RL 116 yX5_civil ∈ AG := List.mem_filter.mpr ⟨Q1_13i (List.mem_of_getElem? (i := 9) rfl), rfl⟩
theorem q_264 : Cond.instanceMethod yX5_civil ∈ AG := List.mem_filter.mpr ⟨Q1_13i (List.mem_of_getElem? (i := 10) rfl), rfl⟩
theorem q_265 : Cond.selects RX5 yX5_civil yX5_civil ∈ AG := List.mem_filter.mpr ⟨Q1_13i (List.mem_of_getElem? (i := 11) rfl), rfl⟩
theorem q_266 : Cond.code yX5_civil cX5_civil 1 (some .long) ∈ AG := List.mem_filter.mpr ⟨Q1_13i (List.mem_of_getElem? (i := 12) rfl), rfl⟩
theorem q_267 : Cond.methodLink RX5 91 yX0_civilTime ∈ AG := List.mem_filter.mpr ⟨Q1_13i (List.mem_of_getElem? (i := 13) rfl), rfl⟩
theorem q_268 : Cond.instanceMethod yX0_civilTime ∈ AG := List.mem_filter.mpr ⟨Q1_13i (List.mem_of_getElem? (i := 14) rfl), rfl⟩
theorem q_269 : Cond.selects RX0 yX0_civilTime yX0_civilTime ∈ AG := List.mem_filter.mpr ⟨Q1_13i (List.mem_of_getElem? (i := 15) rfl), rfl⟩
theorem q_270 : Cond.code yX0_civilTime cX0_civilTime 6 (some .long) ∈ AG := List.mem_filter.mpr ⟨Q1_14i (List.mem_of_getElem? (i := 0) rfl), rfl⟩
theorem q_271 : Cond.methodLink RX0 20 yX0_contains ∈ AG := List.mem_filter.mpr ⟨Q1_14i (List.mem_of_getElem? (i := 1) rfl), rfl⟩
theorem q_272 : Cond.static yX0_contains ∈ AG := List.mem_filter.mpr ⟨Q1_14i (List.mem_of_getElem? (i := 2) rfl), rfl⟩
theorem q_273 : Cond.code yX0_contains cX0_contains 2 (some .boolean) ∈ AG := List.mem_filter.mpr ⟨Q1_14i (List.mem_of_getElem? (i := 3) rfl), rfl⟩
theorem q_274 : Cond.methodLink RX0 24 yX0_partCome ∈ AG := List.mem_filter.mpr ⟨Q1_14i (List.mem_of_getElem? (i := 4) rfl), rfl⟩
theorem q_275 : Cond.static yX0_partCome ∈ AG := List.mem_filter.mpr ⟨Q1_14i (List.mem_of_getElem? (i := 5) rfl), rfl⟩
theorem q_276 : Cond.code yX0_partCome cX0_partCome 5 (some .long) ∈ AG := List.mem_filter.mpr ⟨Q1_14i (List.mem_of_getElem? (i := 6) rfl), rfl⟩
theorem q_277 : Cond.methodLink RX0 28 yX0_smearBeginning ∈ AG := List.mem_filter.mpr ⟨Q1_14i (List.mem_of_getElem? (i := 7) rfl), rfl⟩
theorem q_278 : Cond.static yX0_smearBeginning ∈ AG := List.mem_filter.mpr ⟨Q1_14i (List.mem_of_getElem? (i := 8) rfl), rfl⟩
theorem q_279 : Cond.code yX0_smearBeginning cX0_smearBeginning 1 (some .long) ∈ AG := List.mem_filter.mpr ⟨Q1_14i (List.mem_of_getElem? (i := 9) rfl), rfl⟩
theorem q_280 : Cond.constantLong RX0 9 (86400000000) ∈ AG := List.mem_filter.mpr ⟨Q1_14i (List.mem_of_getElem? (i := 10) rfl), rfl⟩
theorem q_281 : Cond.constantLong RX0 11 (20000000000) ∈ AG := List.mem_filter.mpr ⟨Q1_14i (List.mem_of_getElem? (i := 11) rfl), rfl⟩
theorem q_282 : Cond.constantLong RX0 32 (20000) ∈ AG := List.mem_filter.mpr ⟨Q1_14i (List.mem_of_getElem? (i := 12) rfl), rfl⟩
theorem q_283 : Cond.constantLong RX0 34 (1000000) ∈ AG := List.mem_filter.mpr ⟨Q1_14i (List.mem_of_getElem? (i := 13) rfl), rfl⟩
theorem q_284 : Cond.methodLink RL 131 yX5_servers ∈ AG := List.mem_filter.mpr ⟨Q1_14i (List.mem_of_getElem? (i := 14) rfl), rfl⟩
theorem q_285 : Cond.instanceMethod yX5_servers ∈ AG := List.mem_filter.mpr ⟨Q1_14i (List.mem_of_getElem? (i := 15) rfl), rfl⟩
theorem q_286 : Cond.selects RX5 yX5_servers yX5_servers ∈ AG := List.mem_filter.mpr ⟨Q2_0i (List.mem_of_getElem? (i := 0) rfl), rfl⟩
theorem q_287 : Cond.code yX5_servers cX5_servers 1 (some .int) ∈ AG := List.mem_filter.mpr ⟨Q2_0i (List.mem_of_getElem? (i := 1) rfl), rfl⟩
theorem q_288 : Cond.methodLink RL 150 yX5_agreement ∈ AG := List.mem_filter.mpr ⟨Q2_0i (List.mem_of_getElem? (i := 2) rfl), rfl⟩
theorem q_289 : Cond.instanceMethod yX5_agreement ∈ AG := List.mem_filter.mpr ⟨Q2_0i (List.mem_of_getElem? (i := 3) rfl), rfl⟩
theorem q_290 : Cond.selects RX5 yX5_agreement yX5_agreement ∈ AG := List.mem_filter.mpr ⟨Q2_0i (List.mem_of_getElem? (i := 4) rfl), rfl⟩
theorem q_291 : Cond.code yX5_agreement cX5_agreement 1 (some .int) ∈ AG := List.mem_filter.mpr ⟨Q2_0i (List.mem_of_getElem? (i := 5) rfl), rfl⟩
theorem q_292 : Cond.methodLink RX5 141 yX5_select ∈ AG := List.mem_filter.mpr ⟨Q2_0i (List.mem_of_getElem? (i := 6) rfl), rfl⟩
theorem q_294 : Cond.instanceMethod yX5_select ∈ AG := List.mem_filter.mpr ⟨Q2_0i (List.mem_of_getElem? (i := 8) rfl), rfl⟩
theorem q_295 : Cond.code yX5_select cX5_select 5 none ∈ AG := List.mem_filter.mpr ⟨Q2_0i (List.mem_of_getElem? (i := 9) rfl), rfl⟩
theorem q_296 : Cond.methodLink RX5 230 yX3_clear ∈ AG := List.mem_filter.mpr ⟨Q2_0i (List.mem_of_getElem? (i := 10) rfl), rfl⟩
theorem q_297 : Cond.instanceMethod yX3_clear ∈ AG := List.mem_filter.mpr ⟨Q2_0i (List.mem_of_getElem? (i := 11) rfl), rfl⟩
theorem q_298 : Cond.selects RX3 yX3_clear yX3_clear ∈ AG := List.mem_filter.mpr ⟨Q2_0i (List.mem_of_getElem? (i := 12) rfl), rfl⟩
theorem q_299 : Cond.code yX3_clear cX3_clear 1 none ∈ AG := List.mem_filter.mpr ⟨Q2_0i (List.mem_of_getElem? (i := 13) rfl), rfl⟩
theorem q_300 : Cond.methodLink RX5 206 yX5_serverOrNull ∈ AG := List.mem_filter.mpr ⟨Q2_0i (List.mem_of_getElem? (i := 14) rfl), rfl⟩
theorem q_302 : Cond.instanceMethod yX5_serverOrNull ∈ AG := List.mem_filter.mpr ⟨Q2_1i (List.mem_of_getElem? (i := 0) rfl), rfl⟩
theorem q_303 : Cond.code yX5_serverOrNull cX5_serverOrNull 2 (some (.object "Clockhouse$Server")) ∈ AG := List.mem_filter.mpr ⟨Q2_1i (List.mem_of_getElem? (i := 1) rfl), rfl⟩
theorem q_304 : Cond.methodLink RX5 103 yX5_roomOrNull ∈ AG := List.mem_filter.mpr ⟨Q2_1i (List.mem_of_getElem? (i := 2) rfl), rfl⟩
theorem q_306 : Cond.instanceMethod yX5_roomOrNull ∈ AG := List.mem_filter.mpr ⟨Q2_1i (List.mem_of_getElem? (i := 4) rfl), rfl⟩
theorem q_307 : Cond.code yX5_roomOrNull cX5_roomOrNull 2 (some (.object "Clockhouse$Server")) ∈ AG := List.mem_filter.mpr ⟨Q2_1i (List.mem_of_getElem? (i := 5) rfl), rfl⟩
theorem q_308 : Cond.methodLink RX5 123 yX4_kept ∈ AG := List.mem_filter.mpr ⟨Q2_1i (List.mem_of_getElem? (i := 6) rfl), rfl⟩
theorem q_309 : Cond.instanceMethod yX4_kept ∈ AG := List.mem_filter.mpr ⟨Q2_1i (List.mem_of_getElem? (i := 7) rfl), rfl⟩
theorem q_310 : Cond.selects RX4 yX4_kept yX4_kept ∈ AG := List.mem_filter.mpr ⟨Q2_1i (List.mem_of_getElem? (i := 8) rfl), rfl⟩
theorem q_311 : Cond.code yX4_kept cX4_kept 1 (some .int) ∈ AG := List.mem_filter.mpr ⟨Q2_1i (List.mem_of_getElem? (i := 9) rfl), rfl⟩
theorem q_312 : Cond.methodLink RX5 231 yX3_enter ∈ AG := List.mem_filter.mpr ⟨Q2_1i (List.mem_of_getElem? (i := 10) rfl), rfl⟩
theorem q_313 : Cond.instanceMethod yX3_enter ∈ AG := List.mem_filter.mpr ⟨Q2_1i (List.mem_of_getElem? (i := 11) rfl), rfl⟩
theorem q_314 : Cond.selects RX3 yX3_enter yX3_enter ∈ AG := List.mem_filter.mpr ⟨Q2_1i (List.mem_of_getElem? (i := 12) rfl), rfl⟩
theorem q_315 : Cond.code yX3_enter cX3_enter 5 none ∈ AG := List.mem_filter.mpr ⟨Q2_1i (List.mem_of_getElem? (i := 13) rfl), rfl⟩
theorem q_316 : Cond.methodLink RX3 44 yX4_bestOffset ∈ AG := List.mem_filter.mpr ⟨Q2_1i (List.mem_of_getElem? (i := 14) rfl), rfl⟩
theorem q_317 : Cond.instanceMethod yX4_bestOffset ∈ AG := List.mem_filter.mpr ⟨Q2_1i (List.mem_of_getElem? (i := 15) rfl), rfl⟩
theorem q_318 : Cond.selects RX4 yX4_bestOffset yX4_bestOffset ∈ AG := List.mem_filter.mpr ⟨Q2_2i (List.mem_of_getElem? (i := 0) rfl), rfl⟩
theorem q_319 : Cond.code yX4_bestOffset cX4_bestOffset 1 (some .long) ∈ AG := List.mem_filter.mpr ⟨Q2_2i (List.mem_of_getElem? (i := 1) rfl), rfl⟩
theorem q_320 : Cond.methodLink RX4 61 yX2_get ∈ AG := List.mem_filter.mpr ⟨Q2_2i (List.mem_of_getElem? (i := 2) rfl), rfl⟩
theorem q_321 : Cond.instanceMethod yX2_get ∈ AG := List.mem_filter.mpr ⟨Q2_2i (List.mem_of_getElem? (i := 3) rfl), rfl⟩
theorem q_322 : Cond.selects RX2 yX2_get yX2_get ∈ AG := List.mem_filter.mpr ⟨Q2_2i (List.mem_of_getElem? (i := 4) rfl), rfl⟩
theorem q_323 : Cond.code yX2_get cX2_get 2 (some .long) ∈ AG := List.mem_filter.mpr ⟨Q2_2i (List.mem_of_getElem? (i := 5) rfl), rfl⟩
theorem q_324 : Cond.methodLink RX3 50 yX2_put ∈ AG := List.mem_filter.mpr ⟨Q2_2i (List.mem_of_getElem? (i := 6) rfl), rfl⟩
theorem q_325 : Cond.instanceMethod yX2_put ∈ AG := List.mem_filter.mpr ⟨Q2_2i (List.mem_of_getElem? (i := 7) rfl), rfl⟩
theorem q_326 : Cond.selects RX2 yX2_put yX2_put ∈ AG := List.mem_filter.mpr ⟨Q2_2i (List.mem_of_getElem? (i := 8) rfl), rfl⟩
theorem q_327 : Cond.code yX2_put cX2_put 4 none ∈ AG := List.mem_filter.mpr ⟨Q2_2i (List.mem_of_getElem? (i := 9) rfl), rfl⟩
theorem q_328 : Cond.methodLink RX3 54 yX4_distanceAt ∈ AG := List.mem_filter.mpr ⟨Q2_2i (List.mem_of_getElem? (i := 10) rfl), rfl⟩
theorem q_329 : Cond.instanceMethod yX4_distanceAt ∈ AG := List.mem_filter.mpr ⟨Q2_2i (List.mem_of_getElem? (i := 11) rfl), rfl⟩
theorem q_330 : Cond.selects RX4 yX4_distanceAt yX4_distanceAt ∈ AG := List.mem_filter.mpr ⟨Q2_2i (List.mem_of_getElem? (i := 12) rfl), rfl⟩
theorem q_331 : Cond.code yX4_distanceAt cX4_distanceAt 5 (some .long) ∈ AG := List.mem_filter.mpr ⟨Q2_2i (List.mem_of_getElem? (i := 13) rfl), rfl⟩
theorem q_332 : Cond.constantLong RX4 69 (2) ∈ AG := List.mem_filter.mpr ⟨Q2_2i (List.mem_of_getElem? (i := 14) rfl), rfl⟩
theorem q_333 : Cond.methodLink RX4 71 yX4_bestDelay ∈ AG := List.mem_filter.mpr ⟨Q2_2i (List.mem_of_getElem? (i := 15) rfl), rfl⟩
theorem q_334 : Cond.instanceMethod yX4_bestDelay ∈ AG := List.mem_filter.mpr ⟨Q2_3i (List.mem_of_getElem? (i := 0) rfl), rfl⟩
theorem q_335 : Cond.selects RX4 yX4_bestDelay yX4_bestDelay ∈ AG := List.mem_filter.mpr ⟨Q2_3i (List.mem_of_getElem? (i := 1) rfl), rfl⟩
theorem q_336 : Cond.code yX4_bestDelay cX4_bestDelay 1 (some .long) ∈ AG := List.mem_filter.mpr ⟨Q2_3i (List.mem_of_getElem? (i := 2) rfl), rfl⟩
theorem q_337 : Cond.methodLink RX4 75 yX4_offsetJitter ∈ AG := List.mem_filter.mpr ⟨Q2_3i (List.mem_of_getElem? (i := 3) rfl), rfl⟩
theorem q_338 : Cond.instanceMethod yX4_offsetJitter ∈ AG := List.mem_filter.mpr ⟨Q2_3i (List.mem_of_getElem? (i := 4) rfl), rfl⟩
theorem q_339 : Cond.selects RX4 yX4_offsetJitter yX4_offsetJitter ∈ AG := List.mem_filter.mpr ⟨Q2_3i (List.mem_of_getElem? (i := 5) rfl), rfl⟩
theorem q_340 : Cond.code yX4_offsetJitter cX4_offsetJitter 6 (some .long) ∈ AG := List.mem_filter.mpr ⟨Q2_3i (List.mem_of_getElem? (i := 6) rfl), rfl⟩
theorem q_341 : Cond.methodLink RX4 65 Lib.MathLoose.abs_long.x ∈ AG := List.mem_filter.mpr ⟨Q2_3i (List.mem_of_getElem? (i := 7) rfl), rfl⟩
theorem q_342 : Cond.static Lib.MathLoose.abs_long.x ∈ AG := List.mem_filter.mpr ⟨Q2_3i (List.mem_of_getElem? (i := 8) rfl), rfl⟩
theorem q_343 : Cond.code Lib.MathLoose.abs_long.x Lib.MathLoose.abs_long.code 2 (some .long) ∈ AG := List.mem_filter.mpr ⟨Q2_3i (List.mem_of_getElem? (i := 9) rfl), rfl⟩
theorem q_344 : Cond.constantLong RX4 78 (15) ∈ AG := List.mem_filter.mpr ⟨Q2_3i (List.mem_of_getElem? (i := 10) rfl), rfl⟩
theorem q_345 : Cond.constantLong RX4 80 (1000000) ∈ AG := List.mem_filter.mpr ⟨Q2_3i (List.mem_of_getElem? (i := 11) rfl), rfl⟩
theorem q_346 : Cond.methodLink RX4 82 yJ9_floorDiv_f86c9 ∈ AG := List.mem_filter.mpr ⟨Q2_3i (List.mem_of_getElem? (i := 12) rfl), rfl⟩
theorem q_347 : Cond.methodLink RX3 58 yX4_offsetJitter ∈ AG := List.mem_filter.mpr ⟨Q2_3i (List.mem_of_getElem? (i := 13) rfl), rfl⟩
theorem q_348 : Cond.methodLink RX3 61 yX4_ownStratum ∈ AG := List.mem_filter.mpr ⟨Q2_3i (List.mem_of_getElem? (i := 14) rfl), rfl⟩
theorem q_349 : Cond.instanceMethod yX4_ownStratum ∈ AG := List.mem_filter.mpr ⟨Q2_3i (List.mem_of_getElem? (i := 15) rfl), rfl⟩
theorem q_350 : Cond.selects RX4 yX4_ownStratum yX4_ownStratum ∈ AG := List.mem_filter.mpr ⟨Q2_4i (List.mem_of_getElem? (i := 0) rfl), rfl⟩
theorem q_351 : Cond.code yX4_ownStratum cX4_ownStratum 1 (some .int) ∈ AG := List.mem_filter.mpr ⟨Q2_4i (List.mem_of_getElem? (i := 1) rfl), rfl⟩
theorem q_352 : Cond.methodLink RX5 235 yX3_intersect ∈ AG := List.mem_filter.mpr ⟨Q2_4i (List.mem_of_getElem? (i := 2) rfl), rfl⟩
theorem q_353 : Cond.instanceMethod yX3_intersect ∈ AG := List.mem_filter.mpr ⟨Q2_4i (List.mem_of_getElem? (i := 3) rfl), rfl⟩
theorem q_354 : Cond.selects RX3 yX3_intersect yX3_intersect ∈ AG := List.mem_filter.mpr ⟨Q2_4i (List.mem_of_getElem? (i := 4) rfl), rfl⟩
theorem q_355 : Cond.code yX3_intersect cX3_intersect 2 none ∈ AG := List.mem_filter.mpr ⟨Q2_4i (List.mem_of_getElem? (i := 5) rfl), rfl⟩
theorem q_356 : Cond.methodLink RX3 74 yX3_contains ∈ AG := List.mem_filter.mpr ⟨Q2_4i (List.mem_of_getElem? (i := 6) rfl), rfl⟩
theorem q_357 : Cond.static yX3_contains ∈ AG := List.mem_filter.mpr ⟨Q2_4i (List.mem_of_getElem? (i := 7) rfl), rfl⟩
theorem q_358 : Cond.code yX3_contains cX3_contains 2 (some .boolean) ∈ AG := List.mem_filter.mpr ⟨Q2_4i (List.mem_of_getElem? (i := 8) rfl), rfl⟩
theorem q_359 : Cond.methodLink RX3 78 yX2_get ∈ AG := List.mem_filter.mpr ⟨Q2_4i (List.mem_of_getElem? (i := 9) rfl), rfl⟩
theorem q_360 : Cond.methodLink RX3 82 yX3_tryLowEnd ∈ AG := List.mem_filter.mpr ⟨Q2_4i (List.mem_of_getElem? (i := 10) rfl), rfl⟩
theorem q_362 : Cond.instanceMethod yX3_tryLowEnd ∈ AG := List.mem_filter.mpr ⟨Q2_4i (List.mem_of_getElem? (i := 12) rfl), rfl⟩
theorem q_363 : Cond.code yX3_tryLowEnd cX3_tryLowEnd 5 none ∈ AG := List.mem_filter.mpr ⟨Q2_4i (List.mem_of_getElem? (i := 13) rfl), rfl⟩
theorem q_364 : Cond.methodLink RX3 89 yX3_intervalsWith ∈ AG := List.mem_filter.mpr ⟨Q2_4i (List.mem_of_getElem? (i := 14) rfl), rfl⟩
theorem q_366 : Cond.instanceMethod yX3_intervalsWith ∈ AG := List.mem_filter.mpr ⟨Q2_5i (List.mem_of_getElem? (i := 0) rfl), rfl⟩
theorem q_367 : Cond.code yX3_intervalsWith cX3_intervalsWith 5 (some .int) ∈ AG := List.mem_filter.mpr ⟨Q2_5i (List.mem_of_getElem? (i := 1) rfl), rfl⟩
theorem q_368 : Cond.methodLink RX3 93 Lib.MathLoose.abs_long.x ∈ AG := List.mem_filter.mpr ⟨Q2_5i (List.mem_of_getElem? (i := 2) rfl), rfl⟩
theorem q_369 : Cond.methodLink RX3 68 yJ6_bitCount_0f7a4 ∈ AG := List.mem_filter.mpr ⟨Q2_5i (List.mem_of_getElem? (i := 3) rfl), rfl⟩
theorem q_370 : Cond.static yJ6_bitCount_0f7a4 ∈ AG := List.mem_filter.mpr ⟨Q2_5i (List.mem_of_getElem? (i := 4) rfl), rfl⟩
theorem q_371 : Cond.code yJ6_bitCount_0f7a4 cJ6_bitCount_0f7a4 1 (some .int) ∈ AG := List.mem_filter.mpr ⟨Q2_5i (List.mem_of_getElem? (i := 5) rfl), rfl⟩
theorem q_372 : Cond.constant RJ6 265 (1431655765) ∈ AG := List.mem_filter.mpr ⟨Q2_5i (List.mem_of_getElem? (i := 6) rfl), rfl⟩
theorem q_373 : Cond.constant RJ6 266 (858993459) ∈ AG := List.mem_filter.mpr ⟨Q2_5i (List.mem_of_getElem? (i := 7) rfl), rfl⟩
theorem q_374 : Cond.constant RJ6 267 (252645135) ∈ AG := List.mem_filter.mpr ⟨Q2_5i (List.mem_of_getElem? (i := 8) rfl), rfl⟩
theorem q_375 : Cond.methodLink RX3 86 yX3_leastUpperEnd ∈ AG := List.mem_filter.mpr ⟨Q2_5i (List.mem_of_getElem? (i := 9) rfl), rfl⟩
theorem q_377 : Cond.instanceMethod yX3_leastUpperEnd ∈ AG := List.mem_filter.mpr ⟨Q2_5i (List.mem_of_getElem? (i := 11) rfl), rfl⟩
theorem q_378 : Cond.code yX3_leastUpperEnd cX3_leastUpperEnd 7 (some .long) ∈ AG := List.mem_filter.mpr ⟨Q2_5i (List.mem_of_getElem? (i := 12) rfl), rfl⟩
theorem q_379 : Cond.methodLink RX5 238 yX3_cluster ∈ AG := List.mem_filter.mpr ⟨Q2_5i (List.mem_of_getElem? (i := 13) rfl), rfl⟩
theorem q_380 : Cond.instanceMethod yX3_cluster ∈ AG := List.mem_filter.mpr ⟨Q2_5i (List.mem_of_getElem? (i := 14) rfl), rfl⟩
theorem q_381 : Cond.selects RX3 yX3_cluster yX3_cluster ∈ AG := List.mem_filter.mpr ⟨Q2_5i (List.mem_of_getElem? (i := 15) rfl), rfl⟩
theorem q_382 : Cond.code yX3_cluster cX3_cluster 3 none ∈ AG := List.mem_filter.mpr ⟨Q2_6i (List.mem_of_getElem? (i := 0) rfl), rfl⟩
theorem q_383 : Cond.methodLink RX3 98 yX3_widestSpread ∈ AG := List.mem_filter.mpr ⟨Q2_6i (List.mem_of_getElem? (i := 1) rfl), rfl⟩
theorem q_385 : Cond.instanceMethod yX3_widestSpread ∈ AG := List.mem_filter.mpr ⟨Q2_6i (List.mem_of_getElem? (i := 3) rfl), rfl⟩
theorem q_386 : Cond.code yX3_widestSpread cX3_widestSpread 3 (some .int) ∈ AG := List.mem_filter.mpr ⟨Q2_6i (List.mem_of_getElem? (i := 4) rfl), rfl⟩
theorem q_387 : Cond.methodLink RX3 101 yX3_spread ∈ AG := List.mem_filter.mpr ⟨Q2_6i (List.mem_of_getElem? (i := 5) rfl), rfl⟩
theorem q_389 : Cond.instanceMethod yX3_spread ∈ AG := List.mem_filter.mpr ⟨Q2_6i (List.mem_of_getElem? (i := 7) rfl), rfl⟩
theorem q_390 : Cond.code yX3_spread cX3_spread 6 (some .long) ∈ AG := List.mem_filter.mpr ⟨Q2_6i (List.mem_of_getElem? (i := 8) rfl), rfl⟩
theorem q_391 : Cond.methodLink RX3 104 yX3_leastJitter ∈ AG := List.mem_filter.mpr ⟨Q2_6i (List.mem_of_getElem? (i := 9) rfl), rfl⟩
theorem q_393 : Cond.instanceMethod yX3_leastJitter ∈ AG := List.mem_filter.mpr ⟨Q2_6i (List.mem_of_getElem? (i := 11) rfl), rfl⟩
theorem q_394 : Cond.code yX3_leastJitter cX3_leastJitter 5 (some .long) ∈ AG := List.mem_filter.mpr ⟨Q2_6i (List.mem_of_getElem? (i := 12) rfl), rfl⟩
theorem q_395 : Cond.methodLink RX5 144 yX3_agreed ∈ AG := List.mem_filter.mpr ⟨Q2_6i (List.mem_of_getElem? (i := 13) rfl), rfl⟩
theorem q_396 : Cond.instanceMethod yX3_agreed ∈ AG := List.mem_filter.mpr ⟨Q2_6i (List.mem_of_getElem? (i := 14) rfl), rfl⟩
theorem q_397 : Cond.selects RX3 yX3_agreed yX3_agreed ∈ AG := List.mem_filter.mpr ⟨Q2_6i (List.mem_of_getElem? (i := 15) rfl), rfl⟩
theorem q_398 : Cond.code yX3_agreed cX3_agreed 1 (some .int) ∈ AG := List.mem_filter.mpr ⟨Q2_7i (List.mem_of_getElem? (i := 0) rfl), rfl⟩
theorem q_399 : Cond.methodLink RL 154 yX5_hasMajority ∈ AG := List.mem_filter.mpr ⟨Q2_7i (List.mem_of_getElem? (i := 1) rfl), rfl⟩
theorem q_400 : Cond.instanceMethod yX5_hasMajority ∈ AG := List.mem_filter.mpr ⟨Q2_7i (List.mem_of_getElem? (i := 2) rfl), rfl⟩
theorem q_401 : Cond.selects RX5 yX5_hasMajority yX5_hasMajority ∈ AG := List.mem_filter.mpr ⟨Q2_7i (List.mem_of_getElem? (i := 3) rfl), rfl⟩
theorem q_402 : Cond.code yX5_hasMajority cX5_hasMajority 1 (some .boolean) ∈ AG := List.mem_filter.mpr ⟨Q2_7i (List.mem_of_getElem? (i := 4) rfl), rfl⟩
theorem q_403 : Cond.methodLink RX5 147 yX3_isMajority ∈ AG := List.mem_filter.mpr ⟨Q2_7i (List.mem_of_getElem? (i := 5) rfl), rfl⟩
theorem q_404 : Cond.instanceMethod yX3_isMajority ∈ AG := List.mem_filter.mpr ⟨Q2_7i (List.mem_of_getElem? (i := 6) rfl), rfl⟩
theorem q_405 : Cond.selects RX3 yX3_isMajority yX3_isMajority ∈ AG := List.mem_filter.mpr ⟨Q2_7i (List.mem_of_getElem? (i := 7) rfl), rfl⟩
theorem q_406 : Cond.code yX3_isMajority cX3_isMajority 1 (some .boolean) ∈ AG := List.mem_filter.mpr ⟨Q2_7i (List.mem_of_getElem? (i := 8) rfl), rfl⟩
theorem q_407 : Cond.methodLink RX3 65 yX3_agreed ∈ AG := List.mem_filter.mpr ⟨Q2_7i (List.mem_of_getElem? (i := 9) rfl), rfl⟩
theorem q_408 : Cond.methodLink RL 159 yX5_agreeing ∈ AG := List.mem_filter.mpr ⟨Q2_7i (List.mem_of_getElem? (i := 10) rfl), rfl⟩
theorem q_409 : Cond.instanceMethod yX5_agreeing ∈ AG := List.mem_filter.mpr ⟨Q2_7i (List.mem_of_getElem? (i := 11) rfl), rfl⟩
theorem q_410 : Cond.selects RX5 yX5_agreeing yX5_agreeing ∈ AG := List.mem_filter.mpr ⟨Q2_7i (List.mem_of_getElem? (i := 12) rfl), rfl⟩
theorem q_411 : Cond.code yX5_agreeing cX5_agreeing 1 (some .int) ∈ AG := List.mem_filter.mpr ⟨Q2_7i (List.mem_of_getElem? (i := 13) rfl), rfl⟩
theorem q_412 : Cond.methodLink RX5 151 yX3_agreeingBits ∈ AG := List.mem_filter.mpr ⟨Q2_7i (List.mem_of_getElem? (i := 14) rfl), rfl⟩
theorem q_413 : Cond.instanceMethod yX3_agreeingBits ∈ AG := List.mem_filter.mpr ⟨Q2_7i (List.mem_of_getElem? (i := 15) rfl), rfl⟩
theorem q_414 : Cond.selects RX3 yX3_agreeingBits yX3_agreeingBits ∈ AG := List.mem_filter.mpr ⟨Q2_8i (List.mem_of_getElem? (i := 0) rfl), rfl⟩
theorem q_415 : Cond.code yX3_agreeingBits cX3_agreeingBits 1 (some .int) ∈ AG := List.mem_filter.mpr ⟨Q2_8i (List.mem_of_getElem? (i := 1) rfl), rfl⟩
theorem q_416 : Cond.methodLink RL 170 yX5_survivors ∈ AG := List.mem_filter.mpr ⟨Q2_8i (List.mem_of_getElem? (i := 2) rfl), rfl⟩
theorem q_417 : Cond.instanceMethod yX5_survivors ∈ AG := List.mem_filter.mpr ⟨Q2_8i (List.mem_of_getElem? (i := 3) rfl), rfl⟩
theorem q_418 : Cond.selects RX5 yX5_survivors yX5_survivors ∈ AG := List.mem_filter.mpr ⟨Q2_8i (List.mem_of_getElem? (i := 4) rfl), rfl⟩
theorem q_419 : Cond.code yX5_survivors cX5_survivors 1 (some .int) ∈ AG := List.mem_filter.mpr ⟨Q2_8i (List.mem_of_getElem? (i := 5) rfl), rfl⟩
theorem q_420 : Cond.methodLink RX5 163 yX3_survivorBits ∈ AG := List.mem_filter.mpr ⟨Q2_8i (List.mem_of_getElem? (i := 6) rfl), rfl⟩
theorem q_421 : Cond.instanceMethod yX3_survivorBits ∈ AG := List.mem_filter.mpr ⟨Q2_8i (List.mem_of_getElem? (i := 7) rfl), rfl⟩
theorem q_422 : Cond.selects RX3 yX3_survivorBits yX3_survivorBits ∈ AG := List.mem_filter.mpr ⟨Q2_8i (List.mem_of_getElem? (i := 8) rfl), rfl⟩
theorem q_423 : Cond.code yX3_survivorBits cX3_survivorBits 1 (some .int) ∈ AG := List.mem_filter.mpr ⟨Q2_8i (List.mem_of_getElem? (i := 9) rfl), rfl⟩
theorem q_424 : Cond.methodLink RL 177 yX5_peer ∈ AG := List.mem_filter.mpr ⟨Q2_8i (List.mem_of_getElem? (i := 10) rfl), rfl⟩
theorem q_425 : Cond.instanceMethod yX5_peer ∈ AG := List.mem_filter.mpr ⟨Q2_8i (List.mem_of_getElem? (i := 11) rfl), rfl⟩
theorem q_426 : Cond.selects RX5 yX5_peer yX5_peer ∈ AG := List.mem_filter.mpr ⟨Q2_8i (List.mem_of_getElem? (i := 12) rfl), rfl⟩
theorem q_427 : Cond.code yX5_peer cX5_peer 1 (some .int) ∈ AG := List.mem_filter.mpr ⟨Q2_8i (List.mem_of_getElem? (i := 13) rfl), rfl⟩
theorem q_428 : Cond.methodLink RX5 169 yX3_preferred ∈ AG := List.mem_filter.mpr ⟨Q2_8i (List.mem_of_getElem? (i := 14) rfl), rfl⟩
theorem q_429 : Cond.instanceMethod yX3_preferred ∈ AG := List.mem_filter.mpr ⟨Q2_8i (List.mem_of_getElem? (i := 15) rfl), rfl⟩
theorem q_430 : Cond.selects RX3 yX3_preferred yX3_preferred ∈ AG := List.mem_filter.mpr ⟨Q2_9i (List.mem_of_getElem? (i := 0) rfl), rfl⟩
theorem q_431 : Cond.code yX3_preferred cX3_preferred 3 (some .int) ∈ AG := List.mem_filter.mpr ⟨Q2_9i (List.mem_of_getElem? (i := 1) rfl), rfl⟩
theorem q_432 : Cond.methodLink RX3 119 yX3_isBetter ∈ AG := List.mem_filter.mpr ⟨Q2_9i (List.mem_of_getElem? (i := 2) rfl), rfl⟩
theorem q_434 : Cond.instanceMethod yX3_isBetter ∈ AG := List.mem_filter.mpr ⟨Q2_9i (List.mem_of_getElem? (i := 4) rfl), rfl⟩
theorem q_435 : Cond.code yX3_isBetter cX3_isBetter 3 (some .boolean) ∈ AG := List.mem_filter.mpr ⟨Q2_9i (List.mem_of_getElem? (i := 5) rfl), rfl⟩
theorem q_436 : Cond.methodLink RL 184 yX5_stratum ∈ AG := List.mem_filter.mpr ⟨Q2_9i (List.mem_of_getElem? (i := 6) rfl), rfl⟩
theorem q_437 : Cond.instanceMethod yX5_stratum ∈ AG := List.mem_filter.mpr ⟨Q2_9i (List.mem_of_getElem? (i := 7) rfl), rfl⟩
theorem q_438 : Cond.selects RX5 yX5_stratum yX5_stratum ∈ AG := List.mem_filter.mpr ⟨Q2_9i (List.mem_of_getElem? (i := 8) rfl), rfl⟩
theorem q_439 : Cond.code yX5_stratum cX5_stratum 1 (some .int) ∈ AG := List.mem_filter.mpr ⟨Q2_9i (List.mem_of_getElem? (i := 9) rfl), rfl⟩
theorem q_440 : Cond.methodLink RL 188 yX5_steps ∈ AG := List.mem_filter.mpr ⟨Q2_9i (List.mem_of_getElem? (i := 10) rfl), rfl⟩
theorem q_441 : Cond.instanceMethod yX5_steps ∈ AG := List.mem_filter.mpr ⟨Q2_9i (List.mem_of_getElem? (i := 11) rfl), rfl⟩
theorem q_442 : Cond.selects RX5 yX5_steps yX5_steps ∈ AG := List.mem_filter.mpr ⟨Q2_9i (List.mem_of_getElem? (i := 12) rfl), rfl⟩
theorem q_443 : Cond.code yX5_steps cX5_steps 1 (some .int) ∈ AG := List.mem_filter.mpr ⟨Q2_9i (List.mem_of_getElem? (i := 13) rfl), rfl⟩
theorem q_444 : Cond.methodLink RL 192 yX5_synchronizations ∈ AG := List.mem_filter.mpr ⟨Q2_9i (List.mem_of_getElem? (i := 14) rfl), rfl⟩
theorem q_445 : Cond.instanceMethod yX5_synchronizations ∈ AG := List.mem_filter.mpr ⟨Q2_9i (List.mem_of_getElem? (i := 15) rfl), rfl⟩
theorem q_446 : Cond.selects RX5 yX5_synchronizations yX5_synchronizations ∈ AG := List.mem_filter.mpr ⟨Q2_10i (List.mem_of_getElem? (i := 0) rfl), rfl⟩
theorem q_447 : Cond.code yX5_synchronizations cX5_synchronizations 1 (some .int) ∈ AG := List.mem_filter.mpr ⟨Q2_10i (List.mem_of_getElem? (i := 1) rfl), rfl⟩
theorem q_448 : Cond.methodLink RL 76 yL_restart ∈ AG := List.mem_filter.mpr ⟨Q2_10i (List.mem_of_getElem? (i := 2) rfl), rfl⟩
theorem q_449 : Cond.static yL_restart ∈ AG := List.mem_filter.mpr ⟨Q2_10i (List.mem_of_getElem? (i := 3) rfl), rfl⟩
theorem q_450 : Cond.codeWith yL_restart cL_restart 3 (some .int) [(0, 5, 8, 13)] ∈ AG := List.mem_filter.mpr ⟨Q2_10i (List.mem_of_getElem? (i := 4) rfl), rfl⟩
theorem q_451 : Cond.classLink RL 13 "java/lang/IllegalArgumentException" ∈ AG := List.mem_filter.mpr ⟨Q2_10i (List.mem_of_getElem? (i := 5) rfl), rfl⟩
theorem q_452 : Cond.methodLink RL 7 yX5_restart ∈ AG := List.mem_filter.mpr ⟨Q2_10i (List.mem_of_getElem? (i := 6) rfl), rfl⟩
theorem q_453 : Cond.instanceMethod yX5_restart ∈ AG := List.mem_filter.mpr ⟨Q2_10i (List.mem_of_getElem? (i := 7) rfl), rfl⟩
theorem q_454 : Cond.selects RX5 yX5_restart yX5_restart ∈ AG := List.mem_filter.mpr ⟨Q2_10i (List.mem_of_getElem? (i := 8) rfl), rfl⟩
theorem q_455 : Cond.code yX5_restart cX5_restart 2 none ∈ AG := List.mem_filter.mpr ⟨Q2_10i (List.mem_of_getElem? (i := 9) rfl), rfl⟩
theorem q_456 : Cond.constant RX5 41 (-1000000000) ∈ AG := List.mem_filter.mpr ⟨Q2_10i (List.mem_of_getElem? (i := 10) rfl), rfl⟩
theorem q_457 : Cond.constant RX5 42 (1000000000) ∈ AG := List.mem_filter.mpr ⟨Q2_10i (List.mem_of_getElem? (i := 11) rfl), rfl⟩
theorem q_458 : Cond.methodLink RX5 43 yX5_isWithin ∈ AG := List.mem_filter.mpr ⟨Q2_10i (List.mem_of_getElem? (i := 12) rfl), rfl⟩
theorem q_459 : Cond.static yX5_isWithin ∈ AG := List.mem_filter.mpr ⟨Q2_10i (List.mem_of_getElem? (i := 13) rfl), rfl⟩
theorem q_460 : Cond.code yX5_isWithin cX5_isWithin 3 (some .boolean) ∈ AG := List.mem_filter.mpr ⟨Q2_10i (List.mem_of_getElem? (i := 14) rfl), rfl⟩
theorem q_461 : Cond.classLink RX5 47 "java/lang/IllegalArgumentException" ∈ AG := List.mem_filter.mpr ⟨Q2_10i (List.mem_of_getElem? (i := 15) rfl), rfl⟩
theorem q_462 : Cond.instantiable "java/lang/IllegalArgumentException" 6 ∈ AG := List.mem_filter.mpr ⟨Q2_11i (List.mem_of_getElem? (i := 0) rfl), rfl⟩
theorem q_470 : Cond.selects "java/lang/IllegalArgumentException" ⟨"java/lang/Throwable", "fillInStackTrace", "(I)Ljava/lang/Throwable;"⟩ ⟨"java/lang/Throwable", "fillInStackTrace", "(I)Ljava/lang/Throwable;"⟩ ∈ AG := List.mem_filter.mpr ⟨Q2_11i (List.mem_of_getElem? (i := 8) rfl), rfl⟩
theorem q_471 : Cond.selects "java/lang/IllegalArgumentException" ⟨"java/lang/Throwable", "fillInStackTrace", "()Ljava/lang/Throwable;"⟩ ⟨"java/lang/Throwable", "fillInStackTrace", "()Ljava/lang/Throwable;"⟩ ∈ AG := List.mem_filter.mpr ⟨Q2_11i (List.mem_of_getElem? (i := 9) rfl), rfl⟩
theorem q_482 : Cond.fieldLink "java/lang/Throwable" 198 "java/lang/Throwable" "backtrace" "Ljava/lang/Object;" ∈ AG := List.mem_filter.mpr ⟨Q2_12i (List.mem_of_getElem? (i := 4) rfl), rfl⟩
theorem q_484 : Cond.instanceMethod ⟨"java/lang/Throwable", "<init>", "()V"⟩ ∈ AG := List.mem_filter.mpr ⟨Q2_12i (List.mem_of_getElem? (i := 6) rfl), rfl⟩
theorem q_485 : Cond.code ⟨"java/lang/Throwable", "<init>", "()V"⟩ prog_16_method_1_code 1 none ∈ AG := List.mem_filter.mpr ⟨Q2_12i (List.mem_of_getElem? (i := 7) rfl), rfl⟩
theorem q_486 : Cond.methodLink "java/lang/Throwable" 1 objectInit ∈ AG := List.mem_filter.mpr ⟨Q2_12i (List.mem_of_getElem? (i := 8) rfl), rfl⟩
theorem q_487 : Cond.fieldLink "java/lang/Throwable" 13 "java/lang/Throwable" "UNASSIGNED_STACK" "[Ljava/lang/StackTraceElement;" ∈ AG := List.mem_filter.mpr ⟨Q2_12i (List.mem_of_getElem? (i := 9) rfl), rfl⟩
theorem q_489 : Cond.fieldLink "java/lang/Throwable" 20 "java/lang/Throwable" "SUPPRESSED_SENTINEL" "Ljava/util/List;" ∈ AG := List.mem_filter.mpr ⟨Q2_12i (List.mem_of_getElem? (i := 11) rfl), rfl⟩
theorem q_491 : Cond.methodLink "java/lang/Throwable" 27 ⟨"java/lang/Throwable", "fillInStackTrace", "()Ljava/lang/Throwable;"⟩ ∈ AG := List.mem_filter.mpr ⟨Q2_12i (List.mem_of_getElem? (i := 13) rfl), rfl⟩
theorem q_492 : Cond.instanceMethod ⟨"java/lang/Throwable", "fillInStackTrace", "()Ljava/lang/Throwable;"⟩ ∈ AG := List.mem_filter.mpr ⟨Q2_12i (List.mem_of_getElem? (i := 14) rfl), rfl⟩
theorem q_494 : Cond.selects "java/lang/IllegalStateException" ⟨"java/lang/Throwable", "fillInStackTrace", "()Ljava/lang/Throwable;"⟩ ⟨"java/lang/Throwable", "fillInStackTrace", "()Ljava/lang/Throwable;"⟩ ∈ AG := List.mem_filter.mpr ⟨Q2_13i (List.mem_of_getElem? (i := 0) rfl), rfl⟩
theorem q_495 : Cond.selects "java/lang/IndexOutOfBoundsException" ⟨"java/lang/Throwable", "fillInStackTrace", "()Ljava/lang/Throwable;"⟩ ⟨"java/lang/Throwable", "fillInStackTrace", "()Ljava/lang/Throwable;"⟩ ∈ AG := List.mem_filter.mpr ⟨Q2_13i (List.mem_of_getElem? (i := 1) rfl), rfl⟩
theorem q_497 : Cond.methodLink "java/lang/Throwable" 202 ⟨"java/lang/Throwable", "fillInStackTrace", "(I)Ljava/lang/Throwable;"⟩ ∈ AG := List.mem_filter.mpr ⟨Q2_13i (List.mem_of_getElem? (i := 3) rfl), rfl⟩
theorem q_499 : Cond.instanceMethod ⟨"java/lang/Throwable", "fillInStackTrace", "(I)Ljava/lang/Throwable;"⟩ ∈ AG := List.mem_filter.mpr ⟨Q2_13i (List.mem_of_getElem? (i := 5) rfl), rfl⟩
theorem q_500 : Cond.instantiable "java/lang/Throwable" 6 ∈ AG := List.mem_filter.mpr ⟨Q2_13i (List.mem_of_getElem? (i := 6) rfl), rfl⟩
theorem q_502 : Cond.methodLink RX5 49 ⟨"java/lang/IllegalArgumentException", "<init>", "()V"⟩ ∈ AG := List.mem_filter.mpr ⟨Q2_13i (List.mem_of_getElem? (i := 8) rfl), rfl⟩
theorem q_503 : Cond.instanceMethod ⟨"java/lang/IllegalArgumentException", "<init>", "()V"⟩ ∈ AG := List.mem_filter.mpr ⟨Q2_13i (List.mem_of_getElem? (i := 9) rfl), rfl⟩
theorem q_504 : Cond.code ⟨"java/lang/IllegalArgumentException", "<init>", "()V"⟩ prog_10_method_1_code 1 none ∈ AG := List.mem_filter.mpr ⟨Q2_13i (List.mem_of_getElem? (i := 10) rfl), rfl⟩
theorem q_505 : Cond.methodLink "java/lang/IllegalArgumentException" 1 ⟨"java/lang/RuntimeException", "<init>", "()V"⟩ ∈ AG := List.mem_filter.mpr ⟨Q2_13i (List.mem_of_getElem? (i := 11) rfl), rfl⟩
theorem q_506 : Cond.instanceMethod ⟨"java/lang/RuntimeException", "<init>", "()V"⟩ ∈ AG := List.mem_filter.mpr ⟨Q2_13i (List.mem_of_getElem? (i := 12) rfl), rfl⟩
theorem q_507 : Cond.code ⟨"java/lang/RuntimeException", "<init>", "()V"⟩ prog_15_method_1_code 1 none ∈ AG := List.mem_filter.mpr ⟨Q2_13i (List.mem_of_getElem? (i := 13) rfl), rfl⟩
theorem q_508 : Cond.methodLink "java/lang/RuntimeException" 1 ⟨"java/lang/Exception", "<init>", "()V"⟩ ∈ AG := List.mem_filter.mpr ⟨Q2_13i (List.mem_of_getElem? (i := 14) rfl), rfl⟩
theorem q_509 : Cond.instanceMethod ⟨"java/lang/Exception", "<init>", "()V"⟩ ∈ AG := List.mem_filter.mpr ⟨Q2_13i (List.mem_of_getElem? (i := 15) rfl), rfl⟩
theorem q_510 : Cond.code ⟨"java/lang/Exception", "<init>", "()V"⟩ prog_9_method_1_code 1 none ∈ AG := List.mem_filter.mpr ⟨Q2_14i (List.mem_of_getElem? (i := 0) rfl), rfl⟩
theorem q_511 : Cond.methodLink "java/lang/Exception" 1 ⟨"java/lang/Throwable", "<init>", "()V"⟩ ∈ AG := List.mem_filter.mpr ⟨Q2_14i (List.mem_of_getElem? (i := 1) rfl), rfl⟩
theorem q_513 : Cond.fieldLink "java/lang/Throwable" 7 "java/lang/Throwable" "cause" "Ljava/lang/Throwable;" ∈ AG := List.mem_filter.mpr ⟨Q2_14i (List.mem_of_getElem? (i := 3) rfl), rfl⟩
theorem q_514 : Cond.fieldLink "java/lang/Throwable" 17 "java/lang/Throwable" "stackTrace" "[Ljava/lang/StackTraceElement;" ∈ AG := List.mem_filter.mpr ⟨Q2_14i (List.mem_of_getElem? (i := 4) rfl), rfl⟩
theorem q_515 : Cond.fieldLink "java/lang/Throwable" 24 "java/lang/Throwable" "suppressedExceptions" "Ljava/util/List;" ∈ AG := List.mem_filter.mpr ⟨Q2_14i (List.mem_of_getElem? (i := 5) rfl), rfl⟩
theorem q_524 : Cond.methodLink RL 85 yL_pass ∈ AG := List.mem_filter.mpr ⟨Q2_14i (List.mem_of_getElem? (i := 14) rfl), rfl⟩
theorem q_525 : Cond.static yL_pass ∈ AG := List.mem_filter.mpr ⟨Q2_14i (List.mem_of_getElem? (i := 15) rfl), rfl⟩
theorem q_526 : Cond.codeWith yL_pass cL_pass 4 (some .int) [(0, 8, 11, 13), (0, 8, 14, 19)] ∈ AG := List.mem_filter.mpr ⟨Q3_0i (List.mem_of_getElem? (i := 0) rfl), rfl⟩
theorem q_527 : Cond.classLink RL 19 "java/lang/IllegalStateException" ∈ AG := List.mem_filter.mpr ⟨Q3_0i (List.mem_of_getElem? (i := 1) rfl), rfl⟩
theorem q_528 : Cond.methodLink RL 15 yX5_pass ∈ AG := List.mem_filter.mpr ⟨Q3_0i (List.mem_of_getElem? (i := 2) rfl), rfl⟩
theorem q_529 : Cond.instanceMethod yX5_pass ∈ AG := List.mem_filter.mpr ⟨Q3_0i (List.mem_of_getElem? (i := 3) rfl), rfl⟩
theorem q_530 : Cond.selects RX5 yX5_pass yX5_pass ∈ AG := List.mem_filter.mpr ⟨Q3_0i (List.mem_of_getElem? (i := 4) rfl), rfl⟩
theorem q_531 : Cond.code yX5_pass cX5_pass 2 (some .long) ∈ AG := List.mem_filter.mpr ⟨Q3_0i (List.mem_of_getElem? (i := 5) rfl), rfl⟩
theorem q_532 : Cond.methodLink RX5 50 yX5_isBeyondLastTrueTime ∈ AG := List.mem_filter.mpr ⟨Q3_0i (List.mem_of_getElem? (i := 6) rfl), rfl⟩
theorem q_534 : Cond.instanceMethod yX5_isBeyondLastTrueTime ∈ AG := List.mem_filter.mpr ⟨Q3_0i (List.mem_of_getElem? (i := 8) rfl), rfl⟩
theorem q_535 : Cond.code yX5_isBeyondLastTrueTime cX5_isBeyondLastTrueTime 3 (some .boolean) ∈ AG := List.mem_filter.mpr ⟨Q3_0i (List.mem_of_getElem? (i := 9) rfl), rfl⟩
theorem q_536 : Cond.constantLong RX5 203 (1000000000000) ∈ AG := List.mem_filter.mpr ⟨Q3_0i (List.mem_of_getElem? (i := 10) rfl), rfl⟩
theorem q_537 : Cond.classLink RX5 54 "java/lang/IllegalStateException" ∈ AG := List.mem_filter.mpr ⟨Q3_0i (List.mem_of_getElem? (i := 11) rfl), rfl⟩
theorem q_538 : Cond.instantiable "java/lang/IllegalStateException" 6 ∈ AG := List.mem_filter.mpr ⟨Q3_0i (List.mem_of_getElem? (i := 12) rfl), rfl⟩
theorem q_540 : Cond.selects "java/lang/IllegalStateException" ⟨"java/lang/Throwable", "fillInStackTrace", "(I)Ljava/lang/Throwable;"⟩ ⟨"java/lang/Throwable", "fillInStackTrace", "(I)Ljava/lang/Throwable;"⟩ ∈ AG := List.mem_filter.mpr ⟨Q3_0i (List.mem_of_getElem? (i := 14) rfl), rfl⟩
theorem q_546 : Cond.methodLink RX5 56 ⟨"java/lang/IllegalStateException", "<init>", "()V"⟩ ∈ AG := List.mem_filter.mpr ⟨Q3_1i (List.mem_of_getElem? (i := 4) rfl), rfl⟩
theorem q_547 : Cond.instanceMethod ⟨"java/lang/IllegalStateException", "<init>", "()V"⟩ ∈ AG := List.mem_filter.mpr ⟨Q3_1i (List.mem_of_getElem? (i := 5) rfl), rfl⟩
theorem q_548 : Cond.code ⟨"java/lang/IllegalStateException", "<init>", "()V"⟩ prog_11_method_1_code 1 none ∈ AG := List.mem_filter.mpr ⟨Q3_1i (List.mem_of_getElem? (i := 6) rfl), rfl⟩
theorem q_549 : Cond.methodLink "java/lang/IllegalStateException" 1 ⟨"java/lang/RuntimeException", "<init>", "()V"⟩ ∈ AG := List.mem_filter.mpr ⟨Q3_1i (List.mem_of_getElem? (i := 7) rfl), rfl⟩
theorem q_552 : Cond.methodLink RX5 57 yX5_elapse ∈ AG := List.mem_filter.mpr ⟨Q3_1i (List.mem_of_getElem? (i := 10) rfl), rfl⟩
theorem q_554 : Cond.instanceMethod yX5_elapse ∈ AG := List.mem_filter.mpr ⟨Q3_1i (List.mem_of_getElem? (i := 12) rfl), rfl⟩
theorem q_555 : Cond.code yX5_elapse cX5_elapse 2 none ∈ AG := List.mem_filter.mpr ⟨Q3_1i (List.mem_of_getElem? (i := 13) rfl), rfl⟩
theorem q_556 : Cond.methodLink RX5 205 yX1_elapse ∈ AG := List.mem_filter.mpr ⟨Q3_1i (List.mem_of_getElem? (i := 14) rfl), rfl⟩
theorem q_557 : Cond.instanceMethod yX1_elapse ∈ AG := List.mem_filter.mpr ⟨Q3_1i (List.mem_of_getElem? (i := 15) rfl), rfl⟩
theorem q_558 : Cond.selects RX1 yX1_elapse yX1_elapse ∈ AG := List.mem_filter.mpr ⟨Q3_2i (List.mem_of_getElem? (i := 0) rfl), rfl⟩
theorem q_559 : Cond.code yX1_elapse cX1_elapse 6 none ∈ AG := List.mem_filter.mpr ⟨Q3_2i (List.mem_of_getElem? (i := 1) rfl), rfl⟩
theorem q_560 : Cond.constantLong RX1 33 (500) ∈ AG := List.mem_filter.mpr ⟨Q3_2i (List.mem_of_getElem? (i := 2) rfl), rfl⟩
theorem q_561 : Cond.methodLink RX1 35 Lib.MathLoose.min_long.x ∈ AG := List.mem_filter.mpr ⟨Q3_2i (List.mem_of_getElem? (i := 3) rfl), rfl⟩
theorem q_562 : Cond.static Lib.MathLoose.min_long.x ∈ AG := List.mem_filter.mpr ⟨Q3_2i (List.mem_of_getElem? (i := 4) rfl), rfl⟩
theorem q_563 : Cond.code Lib.MathLoose.min_long.x Lib.MathLoose.min_long.code 4 (some .long) ∈ AG := List.mem_filter.mpr ⟨Q3_2i (List.mem_of_getElem? (i := 5) rfl), rfl⟩
theorem q_564 : Cond.methodLink RX1 38 Lib.MathLoose.max_long.x ∈ AG := List.mem_filter.mpr ⟨Q3_2i (List.mem_of_getElem? (i := 6) rfl), rfl⟩
theorem q_565 : Cond.static Lib.MathLoose.max_long.x ∈ AG := List.mem_filter.mpr ⟨Q3_2i (List.mem_of_getElem? (i := 7) rfl), rfl⟩
theorem q_566 : Cond.code Lib.MathLoose.max_long.x Lib.MathLoose.max_long.code 4 (some .long) ∈ AG := List.mem_filter.mpr ⟨Q3_2i (List.mem_of_getElem? (i := 8) rfl), rfl⟩
theorem q_567 : Cond.methodLink RL 89 yL_setDrift ∈ AG := List.mem_filter.mpr ⟨Q3_2i (List.mem_of_getElem? (i := 9) rfl), rfl⟩
theorem q_568 : Cond.static yL_setDrift ∈ AG := List.mem_filter.mpr ⟨Q3_2i (List.mem_of_getElem? (i := 10) rfl), rfl⟩
theorem q_569 : Cond.codeWith yL_setDrift cL_setDrift 4 (some .int) [(0, 9, 12, 13)] ∈ AG := List.mem_filter.mpr ⟨Q3_2i (List.mem_of_getElem? (i := 11) rfl), rfl⟩
theorem q_570 : Cond.methodLink RL 21 yX5_setDrift ∈ AG := List.mem_filter.mpr ⟨Q3_2i (List.mem_of_getElem? (i := 12) rfl), rfl⟩
theorem q_571 : Cond.instanceMethod yX5_setDrift ∈ AG := List.mem_filter.mpr ⟨Q3_2i (List.mem_of_getElem? (i := 13) rfl), rfl⟩
theorem q_572 : Cond.selects RX5 yX5_setDrift yX5_setDrift ∈ AG := List.mem_filter.mpr ⟨Q3_2i (List.mem_of_getElem? (i := 14) rfl), rfl⟩
theorem q_573 : Cond.code yX5_setDrift cX5_setDrift 2 (some .int) ∈ AG := List.mem_filter.mpr ⟨Q3_2i (List.mem_of_getElem? (i := 15) rfl), rfl⟩
theorem q_574 : Cond.methodLink RX5 64 yX1_changeDrift ∈ AG := List.mem_filter.mpr ⟨Q3_3i (List.mem_of_getElem? (i := 0) rfl), rfl⟩
theorem q_575 : Cond.instanceMethod yX1_changeDrift ∈ AG := List.mem_filter.mpr ⟨Q3_3i (List.mem_of_getElem? (i := 1) rfl), rfl⟩
theorem q_576 : Cond.selects RX1 yX1_changeDrift yX1_changeDrift ∈ AG := List.mem_filter.mpr ⟨Q3_3i (List.mem_of_getElem? (i := 2) rfl), rfl⟩
theorem q_577 : Cond.code yX1_changeDrift cX1_changeDrift 3 (some .int) ∈ AG := List.mem_filter.mpr ⟨Q3_3i (List.mem_of_getElem? (i := 3) rfl), rfl⟩
theorem q_578 : Cond.methodLink RL 112 yL_announceLeap ∈ AG := List.mem_filter.mpr ⟨Q3_3i (List.mem_of_getElem? (i := 4) rfl), rfl⟩
theorem q_579 : Cond.static yL_announceLeap ∈ AG := List.mem_filter.mpr ⟨Q3_3i (List.mem_of_getElem? (i := 5) rfl), rfl⟩
theorem q_580 : Cond.codeWith yL_announceLeap cL_announceLeap 5 (some .int) [(0, 9, 12, 13), (0, 9, 16, 19)] ∈ AG := List.mem_filter.mpr ⟨Q3_3i (List.mem_of_getElem? (i := 6) rfl), rfl⟩
theorem q_581 : Cond.methodLink RL 25 yX5_announceLeap ∈ AG := List.mem_filter.mpr ⟨Q3_3i (List.mem_of_getElem? (i := 7) rfl), rfl⟩
theorem q_582 : Cond.instanceMethod yX5_announceLeap ∈ AG := List.mem_filter.mpr ⟨Q3_3i (List.mem_of_getElem? (i := 8) rfl), rfl⟩
theorem q_583 : Cond.selects RX5 yX5_announceLeap yX5_announceLeap ∈ AG := List.mem_filter.mpr ⟨Q3_3i (List.mem_of_getElem? (i := 9) rfl), rfl⟩
theorem q_584 : Cond.code yX5_announceLeap cX5_announceLeap 5 (some .long) ∈ AG := List.mem_filter.mpr ⟨Q3_3i (List.mem_of_getElem? (i := 10) rfl), rfl⟩
theorem q_585 : Cond.methodLink RX5 79 yX0_smearBeginning ∈ AG := List.mem_filter.mpr ⟨Q3_3i (List.mem_of_getElem? (i := 11) rfl), rfl⟩
theorem q_586 : Cond.methodLink RX5 83 yX0_isAnnounced ∈ AG := List.mem_filter.mpr ⟨Q3_3i (List.mem_of_getElem? (i := 12) rfl), rfl⟩
theorem q_587 : Cond.instanceMethod yX0_isAnnounced ∈ AG := List.mem_filter.mpr ⟨Q3_3i (List.mem_of_getElem? (i := 13) rfl), rfl⟩
theorem q_588 : Cond.selects RX0 yX0_isAnnounced yX0_isAnnounced ∈ AG := List.mem_filter.mpr ⟨Q3_3i (List.mem_of_getElem? (i := 14) rfl), rfl⟩
theorem q_589 : Cond.code yX0_isAnnounced cX0_isAnnounced 2 (some .boolean) ∈ AG := List.mem_filter.mpr ⟨Q3_3i (List.mem_of_getElem? (i := 15) rfl), rfl⟩
theorem q_590 : Cond.methodLink RX5 87 yX0_announce ∈ AG := List.mem_filter.mpr ⟨Q3_4i (List.mem_of_getElem? (i := 0) rfl), rfl⟩
theorem q_591 : Cond.instanceMethod yX0_announce ∈ AG := List.mem_filter.mpr ⟨Q3_4i (List.mem_of_getElem? (i := 1) rfl), rfl⟩
theorem q_592 : Cond.selects RX0 yX0_announce yX0_announce ∈ AG := List.mem_filter.mpr ⟨Q3_4i (List.mem_of_getElem? (i := 2) rfl), rfl⟩
theorem q_593 : Cond.code yX0_announce cX0_announce 3 none ∈ AG := List.mem_filter.mpr ⟨Q3_4i (List.mem_of_getElem? (i := 3) rfl), rfl⟩
theorem q_594 : Cond.methodLink RL 120 yL_addServer ∈ AG := List.mem_filter.mpr ⟨Q3_4i (List.mem_of_getElem? (i := 4) rfl), rfl⟩
theorem q_595 : Cond.static yL_addServer ∈ AG := List.mem_filter.mpr ⟨Q3_4i (List.mem_of_getElem? (i := 5) rfl), rfl⟩
theorem q_596 : Cond.codeWith yL_addServer cL_addServer 7 (some .int) [(0, 14, 17, 13), (0, 14, 21, 19)] ∈ AG := List.mem_filter.mpr ⟨Q3_4i (List.mem_of_getElem? (i := 6) rfl), rfl⟩
theorem q_597 : Cond.methodLink RL 29 yX5_addServer ∈ AG := List.mem_filter.mpr ⟨Q3_4i (List.mem_of_getElem? (i := 7) rfl), rfl⟩
theorem q_598 : Cond.instanceMethod yX5_addServer ∈ AG := List.mem_filter.mpr ⟨Q3_4i (List.mem_of_getElem? (i := 8) rfl), rfl⟩
theorem q_599 : Cond.selects RX5 yX5_addServer yX5_addServer ∈ AG := List.mem_filter.mpr ⟨Q3_4i (List.mem_of_getElem? (i := 9) rfl), rfl⟩
theorem q_600 : Cond.code yX5_addServer cX5_addServer 6 (some .int) ∈ AG := List.mem_filter.mpr ⟨Q3_4i (List.mem_of_getElem? (i := 10) rfl), rfl⟩
theorem q_601 : Cond.methodLink RX5 95 yX5_isServerError ∈ AG := List.mem_filter.mpr ⟨Q3_4i (List.mem_of_getElem? (i := 11) rfl), rfl⟩
theorem q_602 : Cond.static yX5_isServerError ∈ AG := List.mem_filter.mpr ⟨Q3_4i (List.mem_of_getElem? (i := 12) rfl), rfl⟩
theorem q_603 : Cond.code yX5_isServerError cX5_isServerError 1 (some .boolean) ∈ AG := List.mem_filter.mpr ⟨Q3_4i (List.mem_of_getElem? (i := 13) rfl), rfl⟩
theorem q_604 : Cond.constant RX5 198 (-1000000) ∈ AG := List.mem_filter.mpr ⟨Q3_4i (List.mem_of_getElem? (i := 14) rfl), rfl⟩
theorem q_605 : Cond.constant RX5 98 (1000000) ∈ AG := List.mem_filter.mpr ⟨Q3_4i (List.mem_of_getElem? (i := 15) rfl), rfl⟩
theorem q_606 : Cond.methodLink RX5 107 yX4_settle ∈ AG := List.mem_filter.mpr ⟨Q3_5i (List.mem_of_getElem? (i := 0) rfl), rfl⟩
theorem q_607 : Cond.instanceMethod yX4_settle ∈ AG := List.mem_filter.mpr ⟨Q3_5i (List.mem_of_getElem? (i := 1) rfl), rfl⟩
theorem q_608 : Cond.selects RX4 yX4_settle yX4_settle ∈ AG := List.mem_filter.mpr ⟨Q3_5i (List.mem_of_getElem? (i := 2) rfl), rfl⟩
theorem q_609 : Cond.code yX4_settle cX4_settle 5 none ∈ AG := List.mem_filter.mpr ⟨Q3_5i (List.mem_of_getElem? (i := 3) rfl), rfl⟩
theorem q_610 : Cond.methodLink RX4 38 yX4_forget ∈ AG := List.mem_filter.mpr ⟨Q3_5i (List.mem_of_getElem? (i := 4) rfl), rfl⟩
theorem q_611 : Cond.instanceMethod yX4_forget ∈ AG := List.mem_filter.mpr ⟨Q3_5i (List.mem_of_getElem? (i := 5) rfl), rfl⟩
theorem q_612 : Cond.selects RX4 yX4_forget yX4_forget ∈ AG := List.mem_filter.mpr ⟨Q3_5i (List.mem_of_getElem? (i := 6) rfl), rfl⟩
theorem q_613 : Cond.code yX4_forget cX4_forget 1 none ∈ AG := List.mem_filter.mpr ⟨Q3_5i (List.mem_of_getElem? (i := 7) rfl), rfl⟩
theorem q_614 : Cond.methodLink RL 124 yL_setError ∈ AG := List.mem_filter.mpr ⟨Q3_5i (List.mem_of_getElem? (i := 8) rfl), rfl⟩
theorem q_615 : Cond.static yL_setError ∈ AG := List.mem_filter.mpr ⟨Q3_5i (List.mem_of_getElem? (i := 9) rfl), rfl⟩
theorem q_616 : Cond.codeWith yL_setError cL_setError 5 (some .int) [(0, 10, 13, 37), (0, 10, 17, 13)] ∈ AG := List.mem_filter.mpr ⟨Q3_5i (List.mem_of_getElem? (i := 10) rfl), rfl⟩
theorem q_617 : Cond.classLink RL 37 "java/lang/IndexOutOfBoundsException" ∈ AG := List.mem_filter.mpr ⟨Q3_5i (List.mem_of_getElem? (i := 11) rfl), rfl⟩
theorem q_618 : Cond.methodLink RL 33 yX5_setError ∈ AG := List.mem_filter.mpr ⟨Q3_5i (List.mem_of_getElem? (i := 12) rfl), rfl⟩
theorem q_619 : Cond.instanceMethod yX5_setError ∈ AG := List.mem_filter.mpr ⟨Q3_5i (List.mem_of_getElem? (i := 13) rfl), rfl⟩
theorem q_620 : Cond.selects RX5 yX5_setError yX5_setError ∈ AG := List.mem_filter.mpr ⟨Q3_5i (List.mem_of_getElem? (i := 14) rfl), rfl⟩
theorem q_621 : Cond.code yX5_setError cX5_setError 4 (some .int) ∈ AG := List.mem_filter.mpr ⟨Q3_5i (List.mem_of_getElem? (i := 15) rfl), rfl⟩
theorem q_622 : Cond.methodLink RX5 111 yX5_knownServer ∈ AG := List.mem_filter.mpr ⟨Q3_6i (List.mem_of_getElem? (i := 0) rfl), rfl⟩
theorem q_624 : Cond.instanceMethod yX5_knownServer ∈ AG := List.mem_filter.mpr ⟨Q3_6i (List.mem_of_getElem? (i := 2) rfl), rfl⟩
theorem q_625 : Cond.code yX5_knownServer cX5_knownServer 3 (some (.object "Clockhouse$Server")) ∈ AG := List.mem_filter.mpr ⟨Q3_6i (List.mem_of_getElem? (i := 3) rfl), rfl⟩
theorem q_626 : Cond.classLink RX5 209 "java/lang/IndexOutOfBoundsException" ∈ AG := List.mem_filter.mpr ⟨Q3_6i (List.mem_of_getElem? (i := 4) rfl), rfl⟩
theorem q_627 : Cond.instantiable "java/lang/IndexOutOfBoundsException" 6 ∈ AG := List.mem_filter.mpr ⟨Q3_6i (List.mem_of_getElem? (i := 5) rfl), rfl⟩
theorem q_629 : Cond.selects "java/lang/IndexOutOfBoundsException" ⟨"java/lang/Throwable", "fillInStackTrace", "(I)Ljava/lang/Throwable;"⟩ ⟨"java/lang/Throwable", "fillInStackTrace", "(I)Ljava/lang/Throwable;"⟩ ∈ AG := List.mem_filter.mpr ⟨Q3_6i (List.mem_of_getElem? (i := 7) rfl), rfl⟩
theorem q_635 : Cond.methodLink RX5 211 ⟨"java/lang/IndexOutOfBoundsException", "<init>", "()V"⟩ ∈ AG := List.mem_filter.mpr ⟨Q3_6i (List.mem_of_getElem? (i := 13) rfl), rfl⟩
theorem q_636 : Cond.instanceMethod ⟨"java/lang/IndexOutOfBoundsException", "<init>", "()V"⟩ ∈ AG := List.mem_filter.mpr ⟨Q3_6i (List.mem_of_getElem? (i := 14) rfl), rfl⟩
theorem q_637 : Cond.code ⟨"java/lang/IndexOutOfBoundsException", "<init>", "()V"⟩ prog_12_method_1_code 1 none ∈ AG := List.mem_filter.mpr ⟨Q3_6i (List.mem_of_getElem? (i := 15) rfl), rfl⟩
theorem q_638 : Cond.methodLink "java/lang/IndexOutOfBoundsException" 1 ⟨"java/lang/RuntimeException", "<init>", "()V"⟩ ∈ AG := List.mem_filter.mpr ⟨Q3_7i (List.mem_of_getElem? (i := 0) rfl), rfl⟩
theorem q_641 : Cond.methodLink RX5 114 yX4_changeError ∈ AG := List.mem_filter.mpr ⟨Q3_7i (List.mem_of_getElem? (i := 3) rfl), rfl⟩
theorem q_642 : Cond.instanceMethod yX4_changeError ∈ AG := List.mem_filter.mpr ⟨Q3_7i (List.mem_of_getElem? (i := 4) rfl), rfl⟩
theorem q_643 : Cond.selects RX4 yX4_changeError yX4_changeError ∈ AG := List.mem_filter.mpr ⟨Q3_7i (List.mem_of_getElem? (i := 5) rfl), rfl⟩
theorem q_644 : Cond.code yX4_changeError cX4_changeError 3 (some .int) ∈ AG := List.mem_filter.mpr ⟨Q3_7i (List.mem_of_getElem? (i := 6) rfl), rfl⟩
theorem q_645 : Cond.methodLink RL 128 yL_exchange ∈ AG := List.mem_filter.mpr ⟨Q3_7i (List.mem_of_getElem? (i := 7) rfl), rfl⟩
theorem q_646 : Cond.static yL_exchange ∈ AG := List.mem_filter.mpr ⟨Q3_7i (List.mem_of_getElem? (i := 8) rfl), rfl⟩
theorem q_647 : Cond.codeWith yL_exchange cL_exchange 7 (some .int) [(0, 13, 16, 37), (0, 13, 20, 13), (0, 13, 24, 19)] ∈ AG := List.mem_filter.mpr ⟨Q3_7i (List.mem_of_getElem? (i := 9) rfl), rfl⟩
theorem q_648 : Cond.methodLink RL 39 yX5_exchange ∈ AG := List.mem_filter.mpr ⟨Q3_7i (List.mem_of_getElem? (i := 10) rfl), rfl⟩
theorem q_649 : Cond.instanceMethod yX5_exchange ∈ AG := List.mem_filter.mpr ⟨Q3_7i (List.mem_of_getElem? (i := 11) rfl), rfl⟩
theorem q_650 : Cond.selects RX5 yX5_exchange yX5_exchange ∈ AG := List.mem_filter.mpr ⟨Q3_7i (List.mem_of_getElem? (i := 12) rfl), rfl⟩
theorem q_651 : Cond.code yX5_exchange cX5_exchange 6 (some .long) ∈ AG := List.mem_filter.mpr ⟨Q3_7i (List.mem_of_getElem? (i := 13) rfl), rfl⟩
theorem q_652 : Cond.constant RX5 117 (500000) ∈ AG := List.mem_filter.mpr ⟨Q3_7i (List.mem_of_getElem? (i := 14) rfl), rfl⟩
theorem q_653 : Cond.constant RX5 118 (100000) ∈ AG := List.mem_filter.mpr ⟨Q3_7i (List.mem_of_getElem? (i := 15) rfl), rfl⟩
theorem q_654 : Cond.methodLink RX5 119 yX5_takeSample ∈ AG := List.mem_filter.mpr ⟨Q3_8i (List.mem_of_getElem? (i := 0) rfl), rfl⟩
theorem q_656 : Cond.instanceMethod yX5_takeSample ∈ AG := List.mem_filter.mpr ⟨Q3_8i (List.mem_of_getElem? (i := 2) rfl), rfl⟩
theorem q_657 : Cond.code yX5_takeSample cX5_takeSample 17 (some .long) ∈ AG := List.mem_filter.mpr ⟨Q3_8i (List.mem_of_getElem? (i := 3) rfl), rfl⟩
theorem q_658 : Cond.methodLink RX5 212 yX4_readingAt ∈ AG := List.mem_filter.mpr ⟨Q3_8i (List.mem_of_getElem? (i := 4) rfl), rfl⟩
theorem q_659 : Cond.instanceMethod yX4_readingAt ∈ AG := List.mem_filter.mpr ⟨Q3_8i (List.mem_of_getElem? (i := 5) rfl), rfl⟩
theorem q_660 : Cond.selects RX4 yX4_readingAt yX4_readingAt ∈ AG := List.mem_filter.mpr ⟨Q3_8i (List.mem_of_getElem? (i := 6) rfl), rfl⟩
theorem q_661 : Cond.code yX4_readingAt cX4_readingAt 3 (some .long) ∈ AG := List.mem_filter.mpr ⟨Q3_8i (List.mem_of_getElem? (i := 7) rfl), rfl⟩
theorem q_662 : Cond.constantLong RX5 215 (2) ∈ AG := List.mem_filter.mpr ⟨Q3_8i (List.mem_of_getElem? (i := 8) rfl), rfl⟩
theorem q_663 : Cond.methodLink RX5 217 yJ9_floorDiv_f86c9 ∈ AG := List.mem_filter.mpr ⟨Q3_8i (List.mem_of_getElem? (i := 9) rfl), rfl⟩
theorem q_664 : Cond.methodLink RX5 223 Lib.MathLoose.max_long.x ∈ AG := List.mem_filter.mpr ⟨Q3_8i (List.mem_of_getElem? (i := 10) rfl), rfl⟩
theorem q_665 : Cond.methodLink RX5 226 yX4_keep ∈ AG := List.mem_filter.mpr ⟨Q3_8i (List.mem_of_getElem? (i := 11) rfl), rfl⟩
theorem q_666 : Cond.instanceMethod yX4_keep ∈ AG := List.mem_filter.mpr ⟨Q3_8i (List.mem_of_getElem? (i := 12) rfl), rfl⟩
theorem q_667 : Cond.selects RX4 yX4_keep yX4_keep ∈ AG := List.mem_filter.mpr ⟨Q3_8i (List.mem_of_getElem? (i := 13) rfl), rfl⟩
theorem q_668 : Cond.code yX4_keep cX4_keep 7 none ∈ AG := List.mem_filter.mpr ⟨Q3_8i (List.mem_of_getElem? (i := 14) rfl), rfl⟩
theorem q_669 : Cond.methodLink RX4 47 yX2_push ∈ AG := List.mem_filter.mpr ⟨Q3_8i (List.mem_of_getElem? (i := 15) rfl), rfl⟩
theorem q_670 : Cond.instanceMethod yX2_push ∈ AG := List.mem_filter.mpr ⟨Q3_9i (List.mem_of_getElem? (i := 0) rfl), rfl⟩
theorem q_671 : Cond.selects RX2 yX2_push yX2_push ∈ AG := List.mem_filter.mpr ⟨Q3_9i (List.mem_of_getElem? (i := 1) rfl), rfl⟩
theorem q_672 : Cond.code yX2_push cX2_push 4 none ∈ AG := List.mem_filter.mpr ⟨Q3_9i (List.mem_of_getElem? (i := 2) rfl), rfl⟩
theorem q_673 : Cond.methodLink RX2 13 yX2_get ∈ AG := List.mem_filter.mpr ⟨Q3_9i (List.mem_of_getElem? (i := 3) rfl), rfl⟩
theorem q_674 : Cond.methodLink RX2 17 yX2_put ∈ AG := List.mem_filter.mpr ⟨Q3_9i (List.mem_of_getElem? (i := 4) rfl), rfl⟩
theorem q_675 : Cond.methodLink RX4 51 Lib.Math.min.name ∈ AG := List.mem_filter.mpr ⟨Q3_9i (List.mem_of_getElem? (i := 5) rfl), rfl⟩
theorem q_676 : Cond.static Lib.Math.min.name ∈ AG := List.mem_filter.mpr ⟨Q3_9i (List.mem_of_getElem? (i := 6) rfl), rfl⟩
theorem q_677 : Cond.code Lib.Math.min.name Lib.Math.min.code 2 (some .int) ∈ AG := List.mem_filter.mpr ⟨Q3_9i (List.mem_of_getElem? (i := 7) rfl), rfl⟩
theorem q_678 : Cond.methodLink RX4 57 yX4_leastDelay ∈ AG := List.mem_filter.mpr ⟨Q3_9i (List.mem_of_getElem? (i := 8) rfl), rfl⟩
theorem q_680 : Cond.instanceMethod yX4_leastDelay ∈ AG := List.mem_filter.mpr ⟨Q3_9i (List.mem_of_getElem? (i := 10) rfl), rfl⟩
theorem q_681 : Cond.code yX4_leastDelay cX4_leastDelay 3 (some .int) ∈ AG := List.mem_filter.mpr ⟨Q3_9i (List.mem_of_getElem? (i := 11) rfl), rfl⟩
theorem q_682 : Cond.methodLink RL 135 yL_samples ∈ AG := List.mem_filter.mpr ⟨Q3_9i (List.mem_of_getElem? (i := 12) rfl), rfl⟩
theorem q_683 : Cond.static yL_samples ∈ AG := List.mem_filter.mpr ⟨Q3_9i (List.mem_of_getElem? (i := 13) rfl), rfl⟩
theorem q_684 : Cond.codeWith yL_samples cL_samples 4 (some .int) [(0, 9, 12, 37)] ∈ AG := List.mem_filter.mpr ⟨Q3_9i (List.mem_of_getElem? (i := 14) rfl), rfl⟩
theorem q_685 : Cond.methodLink RL 43 yX5_samples ∈ AG := List.mem_filter.mpr ⟨Q3_9i (List.mem_of_getElem? (i := 15) rfl), rfl⟩
theorem q_686 : Cond.instanceMethod yX5_samples ∈ AG := List.mem_filter.mpr ⟨Q3_10i (List.mem_of_getElem? (i := 0) rfl), rfl⟩
theorem q_687 : Cond.selects RX5 yX5_samples yX5_samples ∈ AG := List.mem_filter.mpr ⟨Q3_10i (List.mem_of_getElem? (i := 1) rfl), rfl⟩
theorem q_688 : Cond.code yX5_samples cX5_samples 2 (some .int) ∈ AG := List.mem_filter.mpr ⟨Q3_10i (List.mem_of_getElem? (i := 2) rfl), rfl⟩
theorem q_689 : Cond.methodLink RL 138 yL_offset ∈ AG := List.mem_filter.mpr ⟨Q3_10i (List.mem_of_getElem? (i := 3) rfl), rfl⟩
theorem q_690 : Cond.static yL_offset ∈ AG := List.mem_filter.mpr ⟨Q3_10i (List.mem_of_getElem? (i := 4) rfl), rfl⟩
theorem q_691 : Cond.codeWith yL_offset cL_offset 4 (some .int) [(0, 8, 11, 37), (0, 8, 14, 19)] ∈ AG := List.mem_filter.mpr ⟨Q3_10i (List.mem_of_getElem? (i := 5) rfl), rfl⟩
theorem q_692 : Cond.methodLink RL 46 yX5_offset ∈ AG := List.mem_filter.mpr ⟨Q3_10i (List.mem_of_getElem? (i := 6) rfl), rfl⟩
theorem q_693 : Cond.instanceMethod yX5_offset ∈ AG := List.mem_filter.mpr ⟨Q3_10i (List.mem_of_getElem? (i := 7) rfl), rfl⟩
theorem q_694 : Cond.selects RX5 yX5_offset yX5_offset ∈ AG := List.mem_filter.mpr ⟨Q3_10i (List.mem_of_getElem? (i := 8) rfl), rfl⟩
theorem q_695 : Cond.code yX5_offset cX5_offset 2 (some .long) ∈ AG := List.mem_filter.mpr ⟨Q3_10i (List.mem_of_getElem? (i := 9) rfl), rfl⟩
theorem q_696 : Cond.methodLink RX5 126 yX5_heardServer ∈ AG := List.mem_filter.mpr ⟨Q3_10i (List.mem_of_getElem? (i := 10) rfl), rfl⟩
theorem q_698 : Cond.instanceMethod yX5_heardServer ∈ AG := List.mem_filter.mpr ⟨Q3_10i (List.mem_of_getElem? (i := 12) rfl), rfl⟩
theorem q_699 : Cond.code yX5_heardServer cX5_heardServer 3 (some (.object "Clockhouse$Server")) ∈ AG := List.mem_filter.mpr ⟨Q3_10i (List.mem_of_getElem? (i := 13) rfl), rfl⟩
theorem q_700 : Cond.methodLink RX5 129 yX4_bestOffset ∈ AG := List.mem_filter.mpr ⟨Q3_10i (List.mem_of_getElem? (i := 14) rfl), rfl⟩
theorem q_701 : Cond.methodLink RL 141 yL_delay ∈ AG := List.mem_filter.mpr ⟨Q3_10i (List.mem_of_getElem? (i := 15) rfl), rfl⟩
theorem q_702 : Cond.static yL_delay ∈ AG := List.mem_filter.mpr ⟨Q3_11i (List.mem_of_getElem? (i := 0) rfl), rfl⟩
theorem q_703 : Cond.codeWith yL_delay cL_delay 4 (some .int) [(0, 8, 11, 37), (0, 8, 14, 19)] ∈ AG := List.mem_filter.mpr ⟨Q3_11i (List.mem_of_getElem? (i := 1) rfl), rfl⟩
theorem q_704 : Cond.methodLink RL 49 yX5_delay ∈ AG := List.mem_filter.mpr ⟨Q3_11i (List.mem_of_getElem? (i := 2) rfl), rfl⟩
theorem q_705 : Cond.instanceMethod yX5_delay ∈ AG := List.mem_filter.mpr ⟨Q3_11i (List.mem_of_getElem? (i := 3) rfl), rfl⟩
theorem q_706 : Cond.selects RX5 yX5_delay yX5_delay ∈ AG := List.mem_filter.mpr ⟨Q3_11i (List.mem_of_getElem? (i := 4) rfl), rfl⟩
theorem q_707 : Cond.code yX5_delay cX5_delay 2 (some .long) ∈ AG := List.mem_filter.mpr ⟨Q3_11i (List.mem_of_getElem? (i := 5) rfl), rfl⟩
theorem q_708 : Cond.methodLink RX5 132 yX4_bestDelay ∈ AG := List.mem_filter.mpr ⟨Q3_11i (List.mem_of_getElem? (i := 6) rfl), rfl⟩
theorem q_709 : Cond.methodLink RL 144 yL_jitter ∈ AG := List.mem_filter.mpr ⟨Q3_11i (List.mem_of_getElem? (i := 7) rfl), rfl⟩
theorem q_710 : Cond.static yL_jitter ∈ AG := List.mem_filter.mpr ⟨Q3_11i (List.mem_of_getElem? (i := 8) rfl), rfl⟩
theorem q_711 : Cond.codeWith yL_jitter cL_jitter 4 (some .int) [(0, 8, 11, 37), (0, 8, 14, 19)] ∈ AG := List.mem_filter.mpr ⟨Q3_11i (List.mem_of_getElem? (i := 9) rfl), rfl⟩
theorem q_712 : Cond.methodLink RL 52 yX5_jitter ∈ AG := List.mem_filter.mpr ⟨Q3_11i (List.mem_of_getElem? (i := 10) rfl), rfl⟩
theorem q_713 : Cond.instanceMethod yX5_jitter ∈ AG := List.mem_filter.mpr ⟨Q3_11i (List.mem_of_getElem? (i := 11) rfl), rfl⟩
theorem q_714 : Cond.selects RX5 yX5_jitter yX5_jitter ∈ AG := List.mem_filter.mpr ⟨Q3_11i (List.mem_of_getElem? (i := 12) rfl), rfl⟩
theorem q_715 : Cond.code yX5_jitter cX5_jitter 2 (some .long) ∈ AG := List.mem_filter.mpr ⟨Q3_11i (List.mem_of_getElem? (i := 13) rfl), rfl⟩
theorem q_716 : Cond.methodLink RX5 135 yX4_offsetJitter ∈ AG := List.mem_filter.mpr ⟨Q3_11i (List.mem_of_getElem? (i := 14) rfl), rfl⟩
theorem q_717 : Cond.methodLink RL 147 yL_distance ∈ AG := List.mem_filter.mpr ⟨Q3_11i (List.mem_of_getElem? (i := 15) rfl), rfl⟩
theorem q_718 : Cond.static yL_distance ∈ AG := List.mem_filter.mpr ⟨Q3_12i (List.mem_of_getElem? (i := 0) rfl), rfl⟩
theorem q_719 : Cond.codeWith yL_distance cL_distance 4 (some .int) [(0, 8, 11, 37), (0, 8, 14, 19)] ∈ AG := List.mem_filter.mpr ⟨Q3_12i (List.mem_of_getElem? (i := 1) rfl), rfl⟩
theorem q_720 : Cond.methodLink RL 55 yX5_distance ∈ AG := List.mem_filter.mpr ⟨Q3_12i (List.mem_of_getElem? (i := 2) rfl), rfl⟩
theorem q_721 : Cond.instanceMethod yX5_distance ∈ AG := List.mem_filter.mpr ⟨Q3_12i (List.mem_of_getElem? (i := 3) rfl), rfl⟩
theorem q_722 : Cond.selects RX5 yX5_distance yX5_distance ∈ AG := List.mem_filter.mpr ⟨Q3_12i (List.mem_of_getElem? (i := 4) rfl), rfl⟩
theorem q_723 : Cond.code yX5_distance cX5_distance 2 (some .long) ∈ AG := List.mem_filter.mpr ⟨Q3_12i (List.mem_of_getElem? (i := 5) rfl), rfl⟩
theorem q_724 : Cond.methodLink RX5 138 yX4_distanceAt ∈ AG := List.mem_filter.mpr ⟨Q3_12i (List.mem_of_getElem? (i := 6) rfl), rfl⟩
theorem q_725 : Cond.methodLink RL 163 yL_low ∈ AG := List.mem_filter.mpr ⟨Q3_12i (List.mem_of_getElem? (i := 7) rfl), rfl⟩
theorem q_726 : Cond.static yL_low ∈ AG := List.mem_filter.mpr ⟨Q3_12i (List.mem_of_getElem? (i := 8) rfl), rfl⟩
theorem q_727 : Cond.codeWith yL_low cL_low 3 (some .int) [(0, 7, 10, 19)] ∈ AG := List.mem_filter.mpr ⟨Q3_12i (List.mem_of_getElem? (i := 9) rfl), rfl⟩
theorem q_728 : Cond.methodLink RL 58 yX5_low ∈ AG := List.mem_filter.mpr ⟨Q3_12i (List.mem_of_getElem? (i := 10) rfl), rfl⟩
theorem q_729 : Cond.instanceMethod yX5_low ∈ AG := List.mem_filter.mpr ⟨Q3_12i (List.mem_of_getElem? (i := 11) rfl), rfl⟩
theorem q_730 : Cond.selects RX5 yX5_low yX5_low ∈ AG := List.mem_filter.mpr ⟨Q3_12i (List.mem_of_getElem? (i := 12) rfl), rfl⟩
theorem q_731 : Cond.code yX5_low cX5_low 1 (some .long) ∈ AG := List.mem_filter.mpr ⟨Q3_12i (List.mem_of_getElem? (i := 13) rfl), rfl⟩
theorem q_732 : Cond.methodLink RX5 154 yX5_selectFromSome ∈ AG := List.mem_filter.mpr ⟨Q3_12i (List.mem_of_getElem? (i := 14) rfl), rfl⟩
theorem q_734 : Cond.instanceMethod yX5_selectFromSome ∈ AG := List.mem_filter.mpr ⟨Q3_13i (List.mem_of_getElem? (i := 0) rfl), rfl⟩
theorem q_735 : Cond.code yX5_selectFromSome cX5_selectFromSome 1 none ∈ AG := List.mem_filter.mpr ⟨Q3_13i (List.mem_of_getElem? (i := 1) rfl), rfl⟩
theorem q_736 : Cond.methodLink RX5 241 yX3_isEmpty ∈ AG := List.mem_filter.mpr ⟨Q3_13i (List.mem_of_getElem? (i := 2) rfl), rfl⟩
theorem q_737 : Cond.instanceMethod yX3_isEmpty ∈ AG := List.mem_filter.mpr ⟨Q3_13i (List.mem_of_getElem? (i := 3) rfl), rfl⟩
theorem q_738 : Cond.selects RX3 yX3_isEmpty yX3_isEmpty ∈ AG := List.mem_filter.mpr ⟨Q3_13i (List.mem_of_getElem? (i := 4) rfl), rfl⟩
theorem q_739 : Cond.code yX3_isEmpty cX3_isEmpty 1 (some .boolean) ∈ AG := List.mem_filter.mpr ⟨Q3_13i (List.mem_of_getElem? (i := 5) rfl), rfl⟩
theorem q_740 : Cond.methodLink RX5 157 yX3_lowEnd ∈ AG := List.mem_filter.mpr ⟨Q3_13i (List.mem_of_getElem? (i := 6) rfl), rfl⟩
theorem q_741 : Cond.instanceMethod yX3_lowEnd ∈ AG := List.mem_filter.mpr ⟨Q3_13i (List.mem_of_getElem? (i := 7) rfl), rfl⟩
theorem q_742 : Cond.selects RX3 yX3_lowEnd yX3_lowEnd ∈ AG := List.mem_filter.mpr ⟨Q3_13i (List.mem_of_getElem? (i := 8) rfl), rfl⟩
theorem q_743 : Cond.code yX3_lowEnd cX3_lowEnd 1 (some .long) ∈ AG := List.mem_filter.mpr ⟨Q3_13i (List.mem_of_getElem? (i := 9) rfl), rfl⟩
theorem q_744 : Cond.methodLink RL 167 yL_high ∈ AG := List.mem_filter.mpr ⟨Q3_13i (List.mem_of_getElem? (i := 10) rfl), rfl⟩
theorem q_745 : Cond.static yL_high ∈ AG := List.mem_filter.mpr ⟨Q3_13i (List.mem_of_getElem? (i := 11) rfl), rfl⟩
theorem q_746 : Cond.codeWith yL_high cL_high 3 (some .int) [(0, 7, 10, 19)] ∈ AG := List.mem_filter.mpr ⟨Q3_13i (List.mem_of_getElem? (i := 12) rfl), rfl⟩
theorem q_747 : Cond.methodLink RL 62 yX5_high ∈ AG := List.mem_filter.mpr ⟨Q3_13i (List.mem_of_getElem? (i := 13) rfl), rfl⟩
theorem q_748 : Cond.instanceMethod yX5_high ∈ AG := List.mem_filter.mpr ⟨Q3_13i (List.mem_of_getElem? (i := 14) rfl), rfl⟩
theorem q_749 : Cond.selects RX5 yX5_high yX5_high ∈ AG := List.mem_filter.mpr ⟨Q3_13i (List.mem_of_getElem? (i := 15) rfl), rfl⟩
theorem q_750 : Cond.code yX5_high cX5_high 1 (some .long) ∈ AG := List.mem_filter.mpr ⟨Q3_14i (List.mem_of_getElem? (i := 0) rfl), rfl⟩
theorem q_751 : Cond.methodLink RX5 160 yX3_highEnd ∈ AG := List.mem_filter.mpr ⟨Q3_14i (List.mem_of_getElem? (i := 1) rfl), rfl⟩
theorem q_752 : Cond.instanceMethod yX3_highEnd ∈ AG := List.mem_filter.mpr ⟨Q3_14i (List.mem_of_getElem? (i := 2) rfl), rfl⟩
theorem q_753 : Cond.selects RX3 yX3_highEnd yX3_highEnd ∈ AG := List.mem_filter.mpr ⟨Q3_14i (List.mem_of_getElem? (i := 3) rfl), rfl⟩
theorem q_754 : Cond.code yX3_highEnd cX3_highEnd 1 (some .long) ∈ AG := List.mem_filter.mpr ⟨Q3_14i (List.mem_of_getElem? (i := 4) rfl), rfl⟩
theorem q_755 : Cond.methodLink RL 174 yL_combinedOffset ∈ AG := List.mem_filter.mpr ⟨Q3_14i (List.mem_of_getElem? (i := 5) rfl), rfl⟩
theorem q_756 : Cond.static yL_combinedOffset ∈ AG := List.mem_filter.mpr ⟨Q3_14i (List.mem_of_getElem? (i := 6) rfl), rfl⟩
theorem q_757 : Cond.codeWith yL_combinedOffset cL_combinedOffset 3 (some .int) [(0, 7, 10, 19)] ∈ AG := List.mem_filter.mpr ⟨Q3_14i (List.mem_of_getElem? (i := 7) rfl), rfl⟩
theorem q_758 : Cond.methodLink RL 65 yX5_combinedOffset ∈ AG := List.mem_filter.mpr ⟨Q3_14i (List.mem_of_getElem? (i := 8) rfl), rfl⟩
theorem q_759 : Cond.instanceMethod yX5_combinedOffset ∈ AG := List.mem_filter.mpr ⟨Q3_14i (List.mem_of_getElem? (i := 9) rfl), rfl⟩
theorem q_760 : Cond.selects RX5 yX5_combinedOffset yX5_combinedOffset ∈ AG := List.mem_filter.mpr ⟨Q3_14i (List.mem_of_getElem? (i := 10) rfl), rfl⟩
theorem q_761 : Cond.code yX5_combinedOffset cX5_combinedOffset 1 (some .long) ∈ AG := List.mem_filter.mpr ⟨Q3_14i (List.mem_of_getElem? (i := 11) rfl), rfl⟩
theorem q_762 : Cond.methodLink RX5 166 yX3_weightedOffset ∈ AG := List.mem_filter.mpr ⟨Q3_14i (List.mem_of_getElem? (i := 12) rfl), rfl⟩
theorem q_763 : Cond.instanceMethod yX3_weightedOffset ∈ AG := List.mem_filter.mpr ⟨Q3_14i (List.mem_of_getElem? (i := 13) rfl), rfl⟩
theorem q_764 : Cond.selects RX3 yX3_weightedOffset yX3_weightedOffset ∈ AG := List.mem_filter.mpr ⟨Q3_14i (List.mem_of_getElem? (i := 14) rfl), rfl⟩
theorem q_765 : Cond.code yX3_weightedOffset cX3_weightedOffset 6 (some .long) ∈ AG := List.mem_filter.mpr ⟨Q3_14i (List.mem_of_getElem? (i := 15) rfl), rfl⟩
theorem q_766 : Cond.methodLink RX3 107 yX3_weight ∈ AG := List.mem_filter.mpr ⟨Q4_0i (List.mem_of_getElem? (i := 0) rfl), rfl⟩
theorem q_768 : Cond.instanceMethod yX3_weight ∈ AG := List.mem_filter.mpr ⟨Q4_0i (List.mem_of_getElem? (i := 2) rfl), rfl⟩
theorem q_769 : Cond.code yX3_weight cX3_weight 4 (some .long) ∈ AG := List.mem_filter.mpr ⟨Q4_0i (List.mem_of_getElem? (i := 3) rfl), rfl⟩
theorem q_770 : Cond.constantLong RX3 114 (1000000) ∈ AG := List.mem_filter.mpr ⟨Q4_0i (List.mem_of_getElem? (i := 4) rfl), rfl⟩
theorem q_771 : Cond.methodLink RX3 116 Lib.MathLoose.max_long.x ∈ AG := List.mem_filter.mpr ⟨Q4_0i (List.mem_of_getElem? (i := 5) rfl), rfl⟩
theorem q_772 : Cond.methodLink RX3 110 yJ9_floorDiv_f86c9 ∈ AG := List.mem_filter.mpr ⟨Q4_0i (List.mem_of_getElem? (i := 6) rfl), rfl⟩
theorem q_773 : Cond.methodLink RL 181 yL_synchronize ∈ AG := List.mem_filter.mpr ⟨Q4_0i (List.mem_of_getElem? (i := 7) rfl), rfl⟩
theorem q_774 : Cond.static yL_synchronize ∈ AG := List.mem_filter.mpr ⟨Q4_0i (List.mem_of_getElem? (i := 8) rfl), rfl⟩
theorem q_775 : Cond.codeWith yL_synchronize cL_synchronize 3 (some .int) [(0, 8, 11, 19)] ∈ AG := List.mem_filter.mpr ⟨Q4_0i (List.mem_of_getElem? (i := 9) rfl), rfl⟩
theorem q_776 : Cond.methodLink RL 68 yX5_synchronize ∈ AG := List.mem_filter.mpr ⟨Q4_0i (List.mem_of_getElem? (i := 10) rfl), rfl⟩
theorem q_777 : Cond.instanceMethod yX5_synchronize ∈ AG := List.mem_filter.mpr ⟨Q4_0i (List.mem_of_getElem? (i := 11) rfl), rfl⟩
theorem q_778 : Cond.selects RX5 yX5_synchronize yX5_synchronize ∈ AG := List.mem_filter.mpr ⟨Q4_0i (List.mem_of_getElem? (i := 12) rfl), rfl⟩
theorem q_779 : Cond.code yX5_synchronize cX5_synchronize 4 (some .int) ∈ AG := List.mem_filter.mpr ⟨Q4_0i (List.mem_of_getElem? (i := 13) rfl), rfl⟩
theorem q_780 : Cond.methodLink RX5 172 yX5_correctRate ∈ AG := List.mem_filter.mpr ⟨Q4_0i (List.mem_of_getElem? (i := 14) rfl), rfl⟩
theorem q_782 : Cond.instanceMethod yX5_correctRate ∈ AG := List.mem_filter.mpr ⟨Q4_1i (List.mem_of_getElem? (i := 0) rfl), rfl⟩
theorem q_783 : Cond.code yX5_correctRate cX5_correctRate 7 none ∈ AG := List.mem_filter.mpr ⟨Q4_1i (List.mem_of_getElem? (i := 1) rfl), rfl⟩
theorem q_784 : Cond.constantLong RX5 244 (1000000) ∈ AG := List.mem_filter.mpr ⟨Q4_1i (List.mem_of_getElem? (i := 2) rfl), rfl⟩
theorem q_785 : Cond.constantLong RX5 246 (4) ∈ AG := List.mem_filter.mpr ⟨Q4_1i (List.mem_of_getElem? (i := 3) rfl), rfl⟩
theorem q_786 : Cond.methodLink RX5 248 yX1_addCorrection ∈ AG := List.mem_filter.mpr ⟨Q4_1i (List.mem_of_getElem? (i := 4) rfl), rfl⟩
theorem q_787 : Cond.instanceMethod yX1_addCorrection ∈ AG := List.mem_filter.mpr ⟨Q4_1i (List.mem_of_getElem? (i := 5) rfl), rfl⟩
theorem q_788 : Cond.selects RX1 yX1_addCorrection yX1_addCorrection ∈ AG := List.mem_filter.mpr ⟨Q4_1i (List.mem_of_getElem? (i := 6) rfl), rfl⟩
theorem q_789 : Cond.code yX1_addCorrection cX1_addCorrection 5 none ∈ AG := List.mem_filter.mpr ⟨Q4_1i (List.mem_of_getElem? (i := 7) rfl), rfl⟩
theorem q_790 : Cond.constantLong RX1 41 (-500) ∈ AG := List.mem_filter.mpr ⟨Q4_1i (List.mem_of_getElem? (i := 8) rfl), rfl⟩
theorem q_791 : Cond.methodLink RX5 176 yX5_correctTime ∈ AG := List.mem_filter.mpr ⟨Q4_1i (List.mem_of_getElem? (i := 9) rfl), rfl⟩
theorem q_793 : Cond.instanceMethod yX5_correctTime ∈ AG := List.mem_filter.mpr ⟨Q4_1i (List.mem_of_getElem? (i := 11) rfl), rfl⟩
theorem q_794 : Cond.code yX5_correctTime cX5_correctTime 3 (some .int) ∈ AG := List.mem_filter.mpr ⟨Q4_1i (List.mem_of_getElem? (i := 12) rfl), rfl⟩
theorem q_795 : Cond.constantLong RX5 251 (128000) ∈ AG := List.mem_filter.mpr ⟨Q4_1i (List.mem_of_getElem? (i := 13) rfl), rfl⟩
theorem q_796 : Cond.methodLink RX5 253 yX1_step ∈ AG := List.mem_filter.mpr ⟨Q4_1i (List.mem_of_getElem? (i := 14) rfl), rfl⟩
theorem q_797 : Cond.instanceMethod yX1_step ∈ AG := List.mem_filter.mpr ⟨Q4_1i (List.mem_of_getElem? (i := 15) rfl), rfl⟩
theorem q_798 : Cond.selects RX1 yX1_step yX1_step ∈ AG := List.mem_filter.mpr ⟨Q4_2i (List.mem_of_getElem? (i := 0) rfl), rfl⟩
theorem q_799 : Cond.code yX1_step cX1_step 3 none ∈ AG := List.mem_filter.mpr ⟨Q4_2i (List.mem_of_getElem? (i := 1) rfl), rfl⟩
theorem q_800 : Cond.methodLink RX5 256 yX1_slew ∈ AG := List.mem_filter.mpr ⟨Q4_2i (List.mem_of_getElem? (i := 2) rfl), rfl⟩
theorem q_801 : Cond.instanceMethod yX1_slew ∈ AG := List.mem_filter.mpr ⟨Q4_2i (List.mem_of_getElem? (i := 3) rfl), rfl⟩
theorem q_802 : Cond.selects RX1 yX1_slew yX1_slew ∈ AG := List.mem_filter.mpr ⟨Q4_2i (List.mem_of_getElem? (i := 4) rfl), rfl⟩
theorem q_803 : Cond.code yX1_slew cX1_slew 3 none ∈ AG := List.mem_filter.mpr ⟨Q4_2i (List.mem_of_getElem? (i := 5) rfl), rfl⟩
theorem q_804 : Cond.methodLink RX5 180 yX5_takeStratumOfPeer ∈ AG := List.mem_filter.mpr ⟨Q4_2i (List.mem_of_getElem? (i := 6) rfl), rfl⟩
theorem q_806 : Cond.instanceMethod yX5_takeStratumOfPeer ∈ AG := List.mem_filter.mpr ⟨Q4_2i (List.mem_of_getElem? (i := 8) rfl), rfl⟩
theorem q_807 : Cond.code yX5_takeStratumOfPeer cX5_takeStratumOfPeer 2 none ∈ AG := List.mem_filter.mpr ⟨Q4_2i (List.mem_of_getElem? (i := 9) rfl), rfl⟩
theorem q_808 : Cond.methodLink RX5 259 yX4_ownStratum ∈ AG := List.mem_filter.mpr ⟨Q4_2i (List.mem_of_getElem? (i := 10) rfl), rfl⟩
theorem q_809 : Cond.methodLink RX5 183 yX5_forgetSamples ∈ AG := List.mem_filter.mpr ⟨Q4_2i (List.mem_of_getElem? (i := 11) rfl), rfl⟩
theorem q_811 : Cond.instanceMethod yX5_forgetSamples ∈ AG := List.mem_filter.mpr ⟨Q4_2i (List.mem_of_getElem? (i := 13) rfl), rfl⟩
theorem q_812 : Cond.code yX5_forgetSamples cX5_forgetSamples 3 none ∈ AG := List.mem_filter.mpr ⟨Q4_2i (List.mem_of_getElem? (i := 14) rfl), rfl⟩
theorem q_813 : Cond.methodLink RX5 262 yX4_forget ∈ AG := List.mem_filter.mpr ⟨Q4_2i (List.mem_of_getElem? (i := 15) rfl), rfl⟩
theorem q_814 : Cond.classLink RL 73 RX6 ∈ AG := List.mem_filter.mpr ⟨Q4_3i (List.mem_of_getElem? (i := 0) rfl), rfl⟩
theorem q_815 : Cond.instantiable RX6 26 ∈ AG := List.mem_filter.mpr ⟨Q4_3i (List.mem_of_getElem? (i := 1) rfl), rfl⟩
theorem q_816 : Cond.methodLink RL 75 yX6_init ∈ AG := List.mem_filter.mpr ⟨Q4_3i (List.mem_of_getElem? (i := 2) rfl), rfl⟩
theorem q_817 : Cond.instanceMethod yX6_init ∈ AG := List.mem_filter.mpr ⟨Q4_3i (List.mem_of_getElem? (i := 3) rfl), rfl⟩
theorem q_818 : Cond.code yX6_init cX6_init 1 none ∈ AG := List.mem_filter.mpr ⟨Q4_3i (List.mem_of_getElem? (i := 4) rfl), rfl⟩
theorem q_819 : Cond.methodLink RX6 1 objectInit ∈ AG := List.mem_filter.mpr ⟨Q4_3i (List.mem_of_getElem? (i := 5) rfl), rfl⟩
theorem q_820 : Cond.fieldLink RX6 49 "ClockhouseModel" "refusal" "I" ∈ AG := List.mem_filter.mpr ⟨Q4_3i (List.mem_of_getElem? (i := 6) rfl), rfl⟩
theorem q_821 : Cond.fieldLink RX6 74 "ClockhouseModel" "now" "J" ∈ AG := List.mem_filter.mpr ⟨Q4_3i (List.mem_of_getElem? (i := 7) rfl), rfl⟩
theorem q_822 : Cond.fieldLink RX6 52 "ClockhouseModel" "picos" "J" ∈ AG := List.mem_filter.mpr ⟨Q4_3i (List.mem_of_getElem? (i := 8) rfl), rfl⟩
theorem q_823 : Cond.fieldLink RX6 77 "ClockhouseModel" "pending" "J" ∈ AG := List.mem_filter.mpr ⟨Q4_3i (List.mem_of_getElem? (i := 9) rfl), rfl⟩
theorem q_824 : Cond.fieldLink RX6 80 "ClockhouseModel" "drift" "I" ∈ AG := List.mem_filter.mpr ⟨Q4_3i (List.mem_of_getElem? (i := 10) rfl), rfl⟩
theorem q_825 : Cond.fieldLink RX6 83 "ClockhouseModel" "correction" "I" ∈ AG := List.mem_filter.mpr ⟨Q4_3i (List.mem_of_getElem? (i := 11) rfl), rfl⟩
theorem q_826 : Cond.fieldLink RX6 86 "ClockhouseModel" "steps" "I" ∈ AG := List.mem_filter.mpr ⟨Q4_3i (List.mem_of_getElem? (i := 12) rfl), rfl⟩
theorem q_827 : Cond.fieldLink RX6 89 "ClockhouseModel" "synchronizations" "I" ∈ AG := List.mem_filter.mpr ⟨Q4_3i (List.mem_of_getElem? (i := 13) rfl), rfl⟩
theorem q_828 : Cond.fieldLink RX6 7 "ClockhouseModel" "stratum" "I" ∈ AG := List.mem_filter.mpr ⟨Q4_3i (List.mem_of_getElem? (i := 14) rfl), rfl⟩
theorem q_829 : Cond.fieldLink RX6 92 "ClockhouseModel" "lastReading" "J" ∈ AG := List.mem_filter.mpr ⟨Q4_3i (List.mem_of_getElem? (i := 15) rfl), rfl⟩
theorem q_830 : Cond.fieldLink RX6 13 "ClockhouseModel" "leaps" "[I" ∈ AG := List.mem_filter.mpr ⟨Q4_4i (List.mem_of_getElem? (i := 0) rfl), rfl⟩
theorem q_831 : Cond.fieldLink RX6 95 "ClockhouseModel" "servers" "I" ∈ AG := List.mem_filter.mpr ⟨Q4_4i (List.mem_of_getElem? (i := 1) rfl), rfl⟩
theorem q_832 : Cond.fieldLink RX6 17 "ClockhouseModel" "strata" "[I" ∈ AG := List.mem_filter.mpr ⟨Q4_4i (List.mem_of_getElem? (i := 2) rfl), rfl⟩
theorem q_833 : Cond.fieldLink RX6 20 "ClockhouseModel" "errors" "[I" ∈ AG := List.mem_filter.mpr ⟨Q4_4i (List.mem_of_getElem? (i := 3) rfl), rfl⟩
theorem q_834 : Cond.fieldLink RX6 23 "ClockhouseModel" "rootDelays" "[I" ∈ AG := List.mem_filter.mpr ⟨Q4_4i (List.mem_of_getElem? (i := 4) rfl), rfl⟩
theorem q_835 : Cond.fieldLink RX6 26 "ClockhouseModel" "rootDispersions" "[I" ∈ AG := List.mem_filter.mpr ⟨Q4_4i (List.mem_of_getElem? (i := 5) rfl), rfl⟩
theorem q_836 : Cond.fieldLink RX6 29 "ClockhouseModel" "kept" "[I" ∈ AG := List.mem_filter.mpr ⟨Q4_4i (List.mem_of_getElem? (i := 6) rfl), rfl⟩
theorem q_837 : Cond.fieldLink RX6 32 "ClockhouseModel" "offsets" "[J" ∈ AG := List.mem_filter.mpr ⟨Q4_4i (List.mem_of_getElem? (i := 7) rfl), rfl⟩
theorem q_838 : Cond.fieldLink RX6 36 "ClockhouseModel" "delays" "[J" ∈ AG := List.mem_filter.mpr ⟨Q4_4i (List.mem_of_getElem? (i := 8) rfl), rfl⟩
theorem q_839 : Cond.fieldLink RX6 39 "ClockhouseModel" "times" "[J" ∈ AG := List.mem_filter.mpr ⟨Q4_4i (List.mem_of_getElem? (i := 9) rfl), rfl⟩
theorem q_840 : Cond.fieldLink RX6 178 "ClockhouseModel" "candidates" "I" ∈ AG := List.mem_filter.mpr ⟨Q4_4i (List.mem_of_getElem? (i := 10) rfl), rfl⟩
theorem q_841 : Cond.fieldLink RX6 181 "ClockhouseModel" "most" "I" ∈ AG := List.mem_filter.mpr ⟨Q4_4i (List.mem_of_getElem? (i := 11) rfl), rfl⟩
theorem q_842 : Cond.fieldLink RX6 188 "ClockhouseModel" "lowEnd" "J" ∈ AG := List.mem_filter.mpr ⟨Q4_4i (List.mem_of_getElem? (i := 12) rfl), rfl⟩
theorem q_843 : Cond.fieldLink RX6 191 "ClockhouseModel" "highEnd" "J" ∈ AG := List.mem_filter.mpr ⟨Q4_4i (List.mem_of_getElem? (i := 13) rfl), rfl⟩
theorem q_844 : Cond.fieldLink RX6 42 "ClockhouseModel" "agrees" "[Z" ∈ AG := List.mem_filter.mpr ⟨Q4_4i (List.mem_of_getElem? (i := 14) rfl), rfl⟩
theorem q_845 : Cond.fieldLink RX6 46 "ClockhouseModel" "survives" "[Z" ∈ AG := List.mem_filter.mpr ⟨Q4_4i (List.mem_of_getElem? (i := 15) rfl), rfl⟩
theorem q_899 : Cond.arrayClass .int ∈ AG := List.mem_filter.mpr ⟨Q4_8i (List.mem_of_getElem? (i := 5) rfl), rfl⟩
theorem q_900 : Cond.arrayClass .boolean ∈ AG := List.mem_filter.mpr ⟨Q4_8i (List.mem_of_getElem? (i := 6) rfl), rfl⟩
theorem q_901 : Cond.methodLink RL 82 yX6_thrown ∈ AG := List.mem_filter.mpr ⟨Q4_8i (List.mem_of_getElem? (i := 7) rfl), rfl⟩
theorem q_902 : Cond.instanceMethod yX6_thrown ∈ AG := List.mem_filter.mpr ⟨Q4_8i (List.mem_of_getElem? (i := 8) rfl), rfl⟩
theorem q_903 : Cond.selects RX6 yX6_thrown yX6_thrown ∈ AG := List.mem_filter.mpr ⟨Q4_8i (List.mem_of_getElem? (i := 9) rfl), rfl⟩
theorem q_904 : Cond.code yX6_thrown cX6_thrown 1 (some .int) ∈ AG := List.mem_filter.mpr ⟨Q4_8i (List.mem_of_getElem? (i := 10) rfl), rfl⟩
theorem q_905 : Cond.methodLink RL 81 yX6_restart ∈ AG := List.mem_filter.mpr ⟨Q4_8i (List.mem_of_getElem? (i := 11) rfl), rfl⟩
theorem q_906 : Cond.instanceMethod yX6_restart ∈ AG := List.mem_filter.mpr ⟨Q4_8i (List.mem_of_getElem? (i := 12) rfl), rfl⟩
theorem q_907 : Cond.selects RX6 yX6_restart yX6_restart ∈ AG := List.mem_filter.mpr ⟨Q4_8i (List.mem_of_getElem? (i := 13) rfl), rfl⟩
theorem q_908 : Cond.code yX6_restart cX6_restart 3 none ∈ AG := List.mem_filter.mpr ⟨Q4_8i (List.mem_of_getElem? (i := 14) rfl), rfl⟩
theorem q_909 : Cond.constantLong RX6 62 (-1000000000) ∈ AG := List.mem_filter.mpr ⟨Q4_8i (List.mem_of_getElem? (i := 15) rfl), rfl⟩
theorem q_910 : Cond.constantLong RX6 64 (1000000000) ∈ AG := List.mem_filter.mpr ⟨Q4_9i (List.mem_of_getElem? (i := 0) rfl), rfl⟩
theorem q_911 : Cond.methodLink RX6 66 yX6_in ∈ AG := List.mem_filter.mpr ⟨Q4_9i (List.mem_of_getElem? (i := 1) rfl), rfl⟩
theorem q_912 : Cond.static yX6_in ∈ AG := List.mem_filter.mpr ⟨Q4_9i (List.mem_of_getElem? (i := 2) rfl), rfl⟩
theorem q_913 : Cond.code yX6_in cX6_in 6 (some .boolean) ∈ AG := List.mem_filter.mpr ⟨Q4_9i (List.mem_of_getElem? (i := 3) rfl), rfl⟩
theorem q_914 : Cond.methodLink RX6 70 yX6_refused ∈ AG := List.mem_filter.mpr ⟨Q4_9i (List.mem_of_getElem? (i := 4) rfl), rfl⟩
theorem q_916 : Cond.instanceMethod yX6_refused ∈ AG := List.mem_filter.mpr ⟨Q4_9i (List.mem_of_getElem? (i := 6) rfl), rfl⟩
theorem q_917 : Cond.code yX6_refused cX6_refused 2 (some .boolean) ∈ AG := List.mem_filter.mpr ⟨Q4_9i (List.mem_of_getElem? (i := 7) rfl), rfl⟩
theorem q_918 : Cond.constantLong RX6 56 (1000000) ∈ AG := List.mem_filter.mpr ⟨Q4_9i (List.mem_of_getElem? (i := 8) rfl), rfl⟩
theorem q_919 : Cond.methodLink RL 88 yX6_pass ∈ AG := List.mem_filter.mpr ⟨Q4_9i (List.mem_of_getElem? (i := 9) rfl), rfl⟩
theorem q_920 : Cond.instanceMethod yX6_pass ∈ AG := List.mem_filter.mpr ⟨Q4_9i (List.mem_of_getElem? (i := 10) rfl), rfl⟩
theorem q_921 : Cond.selects RX6 yX6_pass yX6_pass ∈ AG := List.mem_filter.mpr ⟨Q4_9i (List.mem_of_getElem? (i := 11) rfl), rfl⟩
theorem q_922 : Cond.code yX6_pass cX6_pass 2 (some .long) ∈ AG := List.mem_filter.mpr ⟨Q4_9i (List.mem_of_getElem? (i := 12) rfl), rfl⟩
theorem q_923 : Cond.constantLong RX6 100 (1000000000000) ∈ AG := List.mem_filter.mpr ⟨Q4_9i (List.mem_of_getElem? (i := 13) rfl), rfl⟩
theorem q_924 : Cond.methodLink RX6 102 yX6_goOn ∈ AG := List.mem_filter.mpr ⟨Q4_9i (List.mem_of_getElem? (i := 14) rfl), rfl⟩
theorem q_926 : Cond.instanceMethod yX6_goOn ∈ AG := List.mem_filter.mpr ⟨Q4_10i (List.mem_of_getElem? (i := 0) rfl), rfl⟩
theorem q_927 : Cond.code yX6_goOn cX6_goOn 6 none ∈ AG := List.mem_filter.mpr ⟨Q4_10i (List.mem_of_getElem? (i := 1) rfl), rfl⟩
theorem q_928 : Cond.constantLong RX6 98 (500) ∈ AG := List.mem_filter.mpr ⟨Q4_10i (List.mem_of_getElem? (i := 2) rfl), rfl⟩
theorem q_929 : Cond.methodLink RX6 106 yX6_reading ∈ AG := List.mem_filter.mpr ⟨Q4_10i (List.mem_of_getElem? (i := 3) rfl), rfl⟩
theorem q_931 : Cond.instanceMethod yX6_reading ∈ AG := List.mem_filter.mpr ⟨Q4_10i (List.mem_of_getElem? (i := 5) rfl), rfl⟩
theorem q_932 : Cond.code yX6_reading cX6_reading 1 (some .long) ∈ AG := List.mem_filter.mpr ⟨Q4_10i (List.mem_of_getElem? (i := 6) rfl), rfl⟩
theorem q_933 : Cond.methodLink RX6 58 yX6_down ∈ AG := List.mem_filter.mpr ⟨Q4_10i (List.mem_of_getElem? (i := 7) rfl), rfl⟩
theorem q_934 : Cond.static yX6_down ∈ AG := List.mem_filter.mpr ⟨Q4_10i (List.mem_of_getElem? (i := 8) rfl), rfl⟩
theorem q_935 : Cond.code yX6_down cX6_down 6 (some .long) ∈ AG := List.mem_filter.mpr ⟨Q4_10i (List.mem_of_getElem? (i := 9) rfl), rfl⟩
theorem q_936 : Cond.methodLink RL 91 yX6_setDrift ∈ AG := List.mem_filter.mpr ⟨Q4_10i (List.mem_of_getElem? (i := 10) rfl), rfl⟩
theorem q_937 : Cond.instanceMethod yX6_setDrift ∈ AG := List.mem_filter.mpr ⟨Q4_10i (List.mem_of_getElem? (i := 11) rfl), rfl⟩
theorem q_938 : Cond.selects RX6 yX6_setDrift yX6_setDrift ∈ AG := List.mem_filter.mpr ⟨Q4_10i (List.mem_of_getElem? (i := 12) rfl), rfl⟩
theorem q_939 : Cond.code yX6_setDrift cX6_setDrift 3 (some .int) ∈ AG := List.mem_filter.mpr ⟨Q4_10i (List.mem_of_getElem? (i := 13) rfl), rfl⟩
theorem q_940 : Cond.constantLong RX6 110 (-300) ∈ AG := List.mem_filter.mpr ⟨Q4_10i (List.mem_of_getElem? (i := 14) rfl), rfl⟩
theorem q_941 : Cond.constantLong RX6 112 (300) ∈ AG := List.mem_filter.mpr ⟨Q4_10i (List.mem_of_getElem? (i := 15) rfl), rfl⟩
theorem q_942 : Cond.methodLink RL 95 yX6_trueTime ∈ AG := List.mem_filter.mpr ⟨Q4_11i (List.mem_of_getElem? (i := 0) rfl), rfl⟩
theorem q_943 : Cond.instanceMethod yX6_trueTime ∈ AG := List.mem_filter.mpr ⟨Q4_11i (List.mem_of_getElem? (i := 1) rfl), rfl⟩
theorem q_944 : Cond.selects RX6 yX6_trueTime yX6_trueTime ∈ AG := List.mem_filter.mpr ⟨Q4_11i (List.mem_of_getElem? (i := 2) rfl), rfl⟩
theorem q_945 : Cond.code yX6_trueTime cX6_trueTime 1 (some .long) ∈ AG := List.mem_filter.mpr ⟨Q4_11i (List.mem_of_getElem? (i := 3) rfl), rfl⟩
theorem q_946 : Cond.methodLink RX6 114 yX6_fineLong ∈ AG := List.mem_filter.mpr ⟨Q4_11i (List.mem_of_getElem? (i := 4) rfl), rfl⟩
theorem q_948 : Cond.instanceMethod yX6_fineLong ∈ AG := List.mem_filter.mpr ⟨Q4_11i (List.mem_of_getElem? (i := 6) rfl), rfl⟩
theorem q_949 : Cond.code yX6_fineLong cX6_fineLong 3 (some .long) ∈ AG := List.mem_filter.mpr ⟨Q4_11i (List.mem_of_getElem? (i := 7) rfl), rfl⟩
theorem q_950 : Cond.methodLink RL 99 yX6_clock ∈ AG := List.mem_filter.mpr ⟨Q4_11i (List.mem_of_getElem? (i := 8) rfl), rfl⟩
theorem q_951 : Cond.instanceMethod yX6_clock ∈ AG := List.mem_filter.mpr ⟨Q4_11i (List.mem_of_getElem? (i := 9) rfl), rfl⟩
theorem q_952 : Cond.selects RX6 yX6_clock yX6_clock ∈ AG := List.mem_filter.mpr ⟨Q4_11i (List.mem_of_getElem? (i := 10) rfl), rfl⟩
theorem q_953 : Cond.code yX6_clock cX6_clock 1 (some .long) ∈ AG := List.mem_filter.mpr ⟨Q4_11i (List.mem_of_getElem? (i := 11) rfl), rfl⟩
theorem q_954 : Cond.methodLink RL 103 yX6_error ∈ AG := List.mem_filter.mpr ⟨Q4_11i (List.mem_of_getElem? (i := 12) rfl), rfl⟩
theorem q_955 : Cond.instanceMethod yX6_error ∈ AG := List.mem_filter.mpr ⟨Q4_11i (List.mem_of_getElem? (i := 13) rfl), rfl⟩
theorem q_956 : Cond.selects RX6 yX6_error yX6_error ∈ AG := List.mem_filter.mpr ⟨Q4_11i (List.mem_of_getElem? (i := 14) rfl), rfl⟩
theorem q_957 : Cond.code yX6_error cX6_error 1 (some .long) ∈ AG := List.mem_filter.mpr ⟨Q4_11i (List.mem_of_getElem? (i := 15) rfl), rfl⟩
theorem q_958 : Cond.methodLink RL 107 yX6_pendingSlew ∈ AG := List.mem_filter.mpr ⟨Q4_12i (List.mem_of_getElem? (i := 0) rfl), rfl⟩
theorem q_959 : Cond.instanceMethod yX6_pendingSlew ∈ AG := List.mem_filter.mpr ⟨Q4_12i (List.mem_of_getElem? (i := 1) rfl), rfl⟩
theorem q_960 : Cond.selects RX6 yX6_pendingSlew yX6_pendingSlew ∈ AG := List.mem_filter.mpr ⟨Q4_12i (List.mem_of_getElem? (i := 2) rfl), rfl⟩
theorem q_961 : Cond.code yX6_pendingSlew cX6_pendingSlew 1 (some .long) ∈ AG := List.mem_filter.mpr ⟨Q4_12i (List.mem_of_getElem? (i := 3) rfl), rfl⟩
theorem q_962 : Cond.methodLink RL 111 yX6_correction ∈ AG := List.mem_filter.mpr ⟨Q4_12i (List.mem_of_getElem? (i := 4) rfl), rfl⟩
theorem q_963 : Cond.instanceMethod yX6_correction ∈ AG := List.mem_filter.mpr ⟨Q4_12i (List.mem_of_getElem? (i := 5) rfl), rfl⟩
theorem q_964 : Cond.selects RX6 yX6_correction yX6_correction ∈ AG := List.mem_filter.mpr ⟨Q4_12i (List.mem_of_getElem? (i := 6) rfl), rfl⟩
theorem q_965 : Cond.code yX6_correction cX6_correction 1 (some .int) ∈ AG := List.mem_filter.mpr ⟨Q4_12i (List.mem_of_getElem? (i := 7) rfl), rfl⟩
theorem q_966 : Cond.methodLink RX6 118 yX6_fine ∈ AG := List.mem_filter.mpr ⟨Q4_12i (List.mem_of_getElem? (i := 8) rfl), rfl⟩
theorem q_968 : Cond.instanceMethod yX6_fine ∈ AG := List.mem_filter.mpr ⟨Q4_12i (List.mem_of_getElem? (i := 10) rfl), rfl⟩
theorem q_969 : Cond.code yX6_fine cX6_fine 2 (some .int) ∈ AG := List.mem_filter.mpr ⟨Q4_12i (List.mem_of_getElem? (i := 11) rfl), rfl⟩
theorem q_970 : Cond.methodLink RL 115 yX6_announceLeap ∈ AG := List.mem_filter.mpr ⟨Q4_12i (List.mem_of_getElem? (i := 12) rfl), rfl⟩
theorem q_971 : Cond.instanceMethod yX6_announceLeap ∈ AG := List.mem_filter.mpr ⟨Q4_12i (List.mem_of_getElem? (i := 13) rfl), rfl⟩
theorem q_972 : Cond.selects RX6 yX6_announceLeap yX6_announceLeap ∈ AG := List.mem_filter.mpr ⟨Q4_12i (List.mem_of_getElem? (i := 14) rfl), rfl⟩
theorem q_973 : Cond.code yX6_announceLeap cX6_announceLeap 4 (some .long) ∈ AG := List.mem_filter.mpr ⟨Q4_12i (List.mem_of_getElem? (i := 15) rfl), rfl⟩
theorem q_974 : Cond.constantLong RX6 126 (20) ∈ AG := List.mem_filter.mpr ⟨Q4_13i (List.mem_of_getElem? (i := 0) rfl), rfl⟩
theorem q_975 : Cond.methodLink RX6 128 yX6_smearFrom ∈ AG := List.mem_filter.mpr ⟨Q4_13i (List.mem_of_getElem? (i := 1) rfl), rfl⟩
theorem q_976 : Cond.static yX6_smearFrom ∈ AG := List.mem_filter.mpr ⟨Q4_13i (List.mem_of_getElem? (i := 2) rfl), rfl⟩
theorem q_977 : Cond.code yX6_smearFrom cX6_smearFrom 1 (some .long) ∈ AG := List.mem_filter.mpr ⟨Q4_13i (List.mem_of_getElem? (i := 3) rfl), rfl⟩
theorem q_978 : Cond.constantLong RX6 122 (86400000000) ∈ AG := List.mem_filter.mpr ⟨Q4_13i (List.mem_of_getElem? (i := 4) rfl), rfl⟩
theorem q_979 : Cond.constantLong RX6 124 (20000000000) ∈ AG := List.mem_filter.mpr ⟨Q4_13i (List.mem_of_getElem? (i := 5) rfl), rfl⟩
theorem q_980 : Cond.methodLink RL 119 yX6_civil ∈ AG := List.mem_filter.mpr ⟨Q4_13i (List.mem_of_getElem? (i := 6) rfl), rfl⟩
theorem q_981 : Cond.instanceMethod yX6_civil ∈ AG := List.mem_filter.mpr ⟨Q4_13i (List.mem_of_getElem? (i := 7) rfl), rfl⟩
theorem q_982 : Cond.selects RX6 yX6_civil yX6_civil ∈ AG := List.mem_filter.mpr ⟨Q4_13i (List.mem_of_getElem? (i := 8) rfl), rfl⟩
theorem q_983 : Cond.code yX6_civil cX6_civil 8 (some .long) ∈ AG := List.mem_filter.mpr ⟨Q4_13i (List.mem_of_getElem? (i := 9) rfl), rfl⟩
theorem q_984 : Cond.constantLong RX6 132 (20000) ∈ AG := List.mem_filter.mpr ⟨Q4_13i (List.mem_of_getElem? (i := 10) rfl), rfl⟩
theorem q_985 : Cond.methodLink RL 123 yX6_addServer ∈ AG := List.mem_filter.mpr ⟨Q4_13i (List.mem_of_getElem? (i := 11) rfl), rfl⟩
theorem q_986 : Cond.instanceMethod yX6_addServer ∈ AG := List.mem_filter.mpr ⟨Q4_13i (List.mem_of_getElem? (i := 12) rfl), rfl⟩
theorem q_987 : Cond.selects RX6 yX6_addServer yX6_addServer ∈ AG := List.mem_filter.mpr ⟨Q4_13i (List.mem_of_getElem? (i := 13) rfl), rfl⟩
theorem q_988 : Cond.code yX6_addServer cX6_addServer 6 (some .int) ∈ AG := List.mem_filter.mpr ⟨Q4_13i (List.mem_of_getElem? (i := 14) rfl), rfl⟩
theorem q_989 : Cond.constantLong RX6 134 (14) ∈ AG := List.mem_filter.mpr ⟨Q4_13i (List.mem_of_getElem? (i := 15) rfl), rfl⟩
theorem q_990 : Cond.constantLong RX6 136 (-1000000) ∈ AG := List.mem_filter.mpr ⟨Q4_14i (List.mem_of_getElem? (i := 0) rfl), rfl⟩
theorem q_991 : Cond.methodLink RL 127 yX6_setError ∈ AG := List.mem_filter.mpr ⟨Q4_14i (List.mem_of_getElem? (i := 1) rfl), rfl⟩
theorem q_992 : Cond.instanceMethod yX6_setError ∈ AG := List.mem_filter.mpr ⟨Q4_14i (List.mem_of_getElem? (i := 2) rfl), rfl⟩
theorem q_993 : Cond.selects RX6 yX6_setError yX6_setError ∈ AG := List.mem_filter.mpr ⟨Q4_14i (List.mem_of_getElem? (i := 3) rfl), rfl⟩
theorem q_994 : Cond.code yX6_setError cX6_setError 4 (some .int) ∈ AG := List.mem_filter.mpr ⟨Q4_14i (List.mem_of_getElem? (i := 4) rfl), rfl⟩
theorem q_995 : Cond.methodLink RX6 138 yX6_isServer ∈ AG := List.mem_filter.mpr ⟨Q4_14i (List.mem_of_getElem? (i := 5) rfl), rfl⟩
theorem q_997 : Cond.instanceMethod yX6_isServer ∈ AG := List.mem_filter.mpr ⟨Q4_14i (List.mem_of_getElem? (i := 7) rfl), rfl⟩
theorem q_998 : Cond.code yX6_isServer cX6_isServer 2 (some .boolean) ∈ AG := List.mem_filter.mpr ⟨Q4_14i (List.mem_of_getElem? (i := 8) rfl), rfl⟩
theorem q_999 : Cond.methodLink RL 130 yX6_exchange ∈ AG := List.mem_filter.mpr ⟨Q4_14i (List.mem_of_getElem? (i := 9) rfl), rfl⟩
theorem q_1000 : Cond.instanceMethod yX6_exchange ∈ AG := List.mem_filter.mpr ⟨Q4_14i (List.mem_of_getElem? (i := 10) rfl), rfl⟩
theorem q_1001 : Cond.selects RX6 yX6_exchange yX6_exchange ∈ AG := List.mem_filter.mpr ⟨Q4_14i (List.mem_of_getElem? (i := 11) rfl), rfl⟩
theorem q_1002 : Cond.code yX6_exchange cX6_exchange 16 (some .long) ∈ AG := List.mem_filter.mpr ⟨Q4_14i (List.mem_of_getElem? (i := 12) rfl), rfl⟩
theorem q_1003 : Cond.constantLong RX6 141 (500000) ∈ AG := List.mem_filter.mpr ⟨Q4_14i (List.mem_of_getElem? (i := 13) rfl), rfl⟩
theorem q_1004 : Cond.constantLong RX6 143 (100000) ∈ AG := List.mem_filter.mpr ⟨Q4_14i (List.mem_of_getElem? (i := 14) rfl), rfl⟩
theorem q_1005 : Cond.constantLong RX6 145 (2) ∈ AG := List.mem_filter.mpr ⟨Q4_14i (List.mem_of_getElem? (i := 15) rfl), rfl⟩
theorem q_1006 : Cond.methodLink RX6 147 yX6_keep ∈ AG := List.mem_filter.mpr ⟨Q5_0i (List.mem_of_getElem? (i := 0) rfl), rfl⟩
theorem q_1008 : Cond.instanceMethod yX6_keep ∈ AG := List.mem_filter.mpr ⟨Q5_0i (List.mem_of_getElem? (i := 2) rfl), rfl⟩
theorem q_1009 : Cond.code yX6_keep cX6_keep 10 none ∈ AG := List.mem_filter.mpr ⟨Q5_0i (List.mem_of_getElem? (i := 3) rfl), rfl⟩
theorem q_1010 : Cond.methodLink RL 134 yX6_servers ∈ AG := List.mem_filter.mpr ⟨Q5_0i (List.mem_of_getElem? (i := 4) rfl), rfl⟩
theorem q_1011 : Cond.instanceMethod yX6_servers ∈ AG := List.mem_filter.mpr ⟨Q5_0i (List.mem_of_getElem? (i := 5) rfl), rfl⟩
theorem q_1012 : Cond.selects RX6 yX6_servers yX6_servers ∈ AG := List.mem_filter.mpr ⟨Q5_0i (List.mem_of_getElem? (i := 6) rfl), rfl⟩
theorem q_1013 : Cond.code yX6_servers cX6_servers 1 (some .int) ∈ AG := List.mem_filter.mpr ⟨Q5_0i (List.mem_of_getElem? (i := 7) rfl), rfl⟩
theorem q_1014 : Cond.methodLink RL 137 yX6_samples ∈ AG := List.mem_filter.mpr ⟨Q5_0i (List.mem_of_getElem? (i := 8) rfl), rfl⟩
theorem q_1015 : Cond.instanceMethod yX6_samples ∈ AG := List.mem_filter.mpr ⟨Q5_0i (List.mem_of_getElem? (i := 9) rfl), rfl⟩
theorem q_1016 : Cond.selects RX6 yX6_samples yX6_samples ∈ AG := List.mem_filter.mpr ⟨Q5_0i (List.mem_of_getElem? (i := 10) rfl), rfl⟩
theorem q_1017 : Cond.code yX6_samples cX6_samples 2 (some .int) ∈ AG := List.mem_filter.mpr ⟨Q5_0i (List.mem_of_getElem? (i := 11) rfl), rfl⟩
theorem q_1018 : Cond.methodLink RL 140 yX6_offset ∈ AG := List.mem_filter.mpr ⟨Q5_0i (List.mem_of_getElem? (i := 12) rfl), rfl⟩
theorem q_1019 : Cond.instanceMethod yX6_offset ∈ AG := List.mem_filter.mpr ⟨Q5_0i (List.mem_of_getElem? (i := 13) rfl), rfl⟩
theorem q_1020 : Cond.selects RX6 yX6_offset yX6_offset ∈ AG := List.mem_filter.mpr ⟨Q5_0i (List.mem_of_getElem? (i := 14) rfl), rfl⟩
theorem q_1021 : Cond.code yX6_offset cX6_offset 2 (some .long) ∈ AG := List.mem_filter.mpr ⟨Q5_0i (List.mem_of_getElem? (i := 15) rfl), rfl⟩
theorem q_1022 : Cond.methodLink RX6 162 yX6_noSample ∈ AG := List.mem_filter.mpr ⟨Q5_1i (List.mem_of_getElem? (i := 0) rfl), rfl⟩
theorem q_1024 : Cond.instanceMethod yX6_noSample ∈ AG := List.mem_filter.mpr ⟨Q5_1i (List.mem_of_getElem? (i := 2) rfl), rfl⟩
theorem q_1025 : Cond.code yX6_noSample cX6_noSample 2 (some .boolean) ∈ AG := List.mem_filter.mpr ⟨Q5_1i (List.mem_of_getElem? (i := 3) rfl), rfl⟩
theorem q_1026 : Cond.methodLink RX6 151 yX6_best ∈ AG := List.mem_filter.mpr ⟨Q5_1i (List.mem_of_getElem? (i := 4) rfl), rfl⟩
theorem q_1028 : Cond.instanceMethod yX6_best ∈ AG := List.mem_filter.mpr ⟨Q5_1i (List.mem_of_getElem? (i := 6) rfl), rfl⟩
theorem q_1029 : Cond.code yX6_best cX6_best 4 (some .int) ∈ AG := List.mem_filter.mpr ⟨Q5_1i (List.mem_of_getElem? (i := 7) rfl), rfl⟩
theorem q_1030 : Cond.methodLink RL 143 yX6_delay ∈ AG := List.mem_filter.mpr ⟨Q5_1i (List.mem_of_getElem? (i := 8) rfl), rfl⟩
theorem q_1031 : Cond.instanceMethod yX6_delay ∈ AG := List.mem_filter.mpr ⟨Q5_1i (List.mem_of_getElem? (i := 9) rfl), rfl⟩
theorem q_1032 : Cond.selects RX6 yX6_delay yX6_delay ∈ AG := List.mem_filter.mpr ⟨Q5_1i (List.mem_of_getElem? (i := 10) rfl), rfl⟩
theorem q_1033 : Cond.code yX6_delay cX6_delay 2 (some .long) ∈ AG := List.mem_filter.mpr ⟨Q5_1i (List.mem_of_getElem? (i := 11) rfl), rfl⟩
theorem q_1034 : Cond.methodLink RL 146 yX6_jitter ∈ AG := List.mem_filter.mpr ⟨Q5_1i (List.mem_of_getElem? (i := 12) rfl), rfl⟩
theorem q_1035 : Cond.instanceMethod yX6_jitter ∈ AG := List.mem_filter.mpr ⟨Q5_1i (List.mem_of_getElem? (i := 13) rfl), rfl⟩
theorem q_1036 : Cond.selects RX6 yX6_jitter yX6_jitter ∈ AG := List.mem_filter.mpr ⟨Q5_1i (List.mem_of_getElem? (i := 14) rfl), rfl⟩
theorem q_1037 : Cond.code yX6_jitter cX6_jitter 2 (some .long) ∈ AG := List.mem_filter.mpr ⟨Q5_1i (List.mem_of_getElem? (i := 15) rfl), rfl⟩
theorem q_1038 : Cond.methodLink RX6 157 yX6_jitterOf ∈ AG := List.mem_filter.mpr ⟨Q5_2i (List.mem_of_getElem? (i := 0) rfl), rfl⟩
theorem q_1040 : Cond.instanceMethod yX6_jitterOf ∈ AG := List.mem_filter.mpr ⟨Q5_2i (List.mem_of_getElem? (i := 2) rfl), rfl⟩
theorem q_1041 : Cond.code yX6_jitterOf cX6_jitterOf 5 (some .long) ∈ AG := List.mem_filter.mpr ⟨Q5_2i (List.mem_of_getElem? (i := 3) rfl), rfl⟩
theorem q_1042 : Cond.methodLink RX6 154 yX6_size ∈ AG := List.mem_filter.mpr ⟨Q5_2i (List.mem_of_getElem? (i := 4) rfl), rfl⟩
theorem q_1043 : Cond.static yX6_size ∈ AG := List.mem_filter.mpr ⟨Q5_2i (List.mem_of_getElem? (i := 5) rfl), rfl⟩
theorem q_1044 : Cond.code yX6_size cX6_size 2 (some .long) ∈ AG := List.mem_filter.mpr ⟨Q5_2i (List.mem_of_getElem? (i := 6) rfl), rfl⟩
theorem q_1045 : Cond.methodLink RL 149 yX6_distance ∈ AG := List.mem_filter.mpr ⟨Q5_2i (List.mem_of_getElem? (i := 7) rfl), rfl⟩
theorem q_1046 : Cond.instanceMethod yX6_distance ∈ AG := List.mem_filter.mpr ⟨Q5_2i (List.mem_of_getElem? (i := 8) rfl), rfl⟩
theorem q_1047 : Cond.selects RX6 yX6_distance yX6_distance ∈ AG := List.mem_filter.mpr ⟨Q5_2i (List.mem_of_getElem? (i := 9) rfl), rfl⟩
theorem q_1048 : Cond.code yX6_distance cX6_distance 2 (some .long) ∈ AG := List.mem_filter.mpr ⟨Q5_2i (List.mem_of_getElem? (i := 10) rfl), rfl⟩
theorem q_1049 : Cond.methodLink RX6 165 yX6_distanceOf ∈ AG := List.mem_filter.mpr ⟨Q5_2i (List.mem_of_getElem? (i := 11) rfl), rfl⟩
theorem q_1051 : Cond.instanceMethod yX6_distanceOf ∈ AG := List.mem_filter.mpr ⟨Q5_2i (List.mem_of_getElem? (i := 13) rfl), rfl⟩
theorem q_1052 : Cond.code yX6_distanceOf cX6_distanceOf 3 (some .long) ∈ AG := List.mem_filter.mpr ⟨Q5_2i (List.mem_of_getElem? (i := 14) rfl), rfl⟩
theorem q_1053 : Cond.constantLong RX6 160 (15) ∈ AG := List.mem_filter.mpr ⟨Q5_2i (List.mem_of_getElem? (i := 15) rfl), rfl⟩
theorem q_1054 : Cond.methodLink RL 153 yX6_agreement ∈ AG := List.mem_filter.mpr ⟨Q5_3i (List.mem_of_getElem? (i := 0) rfl), rfl⟩
theorem q_1055 : Cond.instanceMethod yX6_agreement ∈ AG := List.mem_filter.mpr ⟨Q5_3i (List.mem_of_getElem? (i := 1) rfl), rfl⟩
theorem q_1056 : Cond.selects RX6 yX6_agreement yX6_agreement ∈ AG := List.mem_filter.mpr ⟨Q5_3i (List.mem_of_getElem? (i := 2) rfl), rfl⟩
theorem q_1057 : Cond.code yX6_agreement cX6_agreement 1 (some .int) ∈ AG := List.mem_filter.mpr ⟨Q5_3i (List.mem_of_getElem? (i := 3) rfl), rfl⟩
theorem q_1058 : Cond.methodLink RX6 201 yX6_intersect ∈ AG := List.mem_filter.mpr ⟨Q5_3i (List.mem_of_getElem? (i := 4) rfl), rfl⟩
theorem q_1060 : Cond.instanceMethod yX6_intersect ∈ AG := List.mem_filter.mpr ⟨Q5_3i (List.mem_of_getElem? (i := 6) rfl), rfl⟩
theorem q_1061 : Cond.code yX6_intersect cX6_intersect 4 none ∈ AG := List.mem_filter.mpr ⟨Q5_3i (List.mem_of_getElem? (i := 7) rfl), rfl⟩
theorem q_1062 : Cond.methodLink RX6 168 yX6_from ∈ AG := List.mem_filter.mpr ⟨Q5_3i (List.mem_of_getElem? (i := 8) rfl), rfl⟩
theorem q_1064 : Cond.instanceMethod yX6_from ∈ AG := List.mem_filter.mpr ⟨Q5_3i (List.mem_of_getElem? (i := 10) rfl), rfl⟩
theorem q_1065 : Cond.code yX6_from cX6_from 2 (some .long) ∈ AG := List.mem_filter.mpr ⟨Q5_3i (List.mem_of_getElem? (i := 11) rfl), rfl⟩
theorem q_1066 : Cond.methodLink RX6 184 yX6_covers ∈ AG := List.mem_filter.mpr ⟨Q5_3i (List.mem_of_getElem? (i := 12) rfl), rfl⟩
theorem q_1068 : Cond.instanceMethod yX6_covers ∈ AG := List.mem_filter.mpr ⟨Q5_3i (List.mem_of_getElem? (i := 14) rfl), rfl⟩
theorem q_1069 : Cond.code yX6_covers cX6_covers 5 (some .int) ∈ AG := List.mem_filter.mpr ⟨Q5_3i (List.mem_of_getElem? (i := 15) rfl), rfl⟩
theorem q_1070 : Cond.methodLink RX6 174 yX6_has ∈ AG := List.mem_filter.mpr ⟨Q5_4i (List.mem_of_getElem? (i := 0) rfl), rfl⟩
theorem q_1072 : Cond.instanceMethod yX6_has ∈ AG := List.mem_filter.mpr ⟨Q5_4i (List.mem_of_getElem? (i := 2) rfl), rfl⟩
theorem q_1073 : Cond.code yX6_has cX6_has 4 (some .boolean) ∈ AG := List.mem_filter.mpr ⟨Q5_4i (List.mem_of_getElem? (i := 3) rfl), rfl⟩
theorem q_1074 : Cond.methodLink RX6 171 yX6_to ∈ AG := List.mem_filter.mpr ⟨Q5_4i (List.mem_of_getElem? (i := 4) rfl), rfl⟩
theorem q_1076 : Cond.instanceMethod yX6_to ∈ AG := List.mem_filter.mpr ⟨Q5_4i (List.mem_of_getElem? (i := 6) rfl), rfl⟩
theorem q_1077 : Cond.code yX6_to cX6_to 2 (some .long) ∈ AG := List.mem_filter.mpr ⟨Q5_4i (List.mem_of_getElem? (i := 7) rfl), rfl⟩
theorem q_1078 : Cond.methodLink RL 158 yX6_hasMajority ∈ AG := List.mem_filter.mpr ⟨Q5_4i (List.mem_of_getElem? (i := 8) rfl), rfl⟩
theorem q_1079 : Cond.instanceMethod yX6_hasMajority ∈ AG := List.mem_filter.mpr ⟨Q5_4i (List.mem_of_getElem? (i := 9) rfl), rfl⟩
theorem q_1080 : Cond.selects RX6 yX6_hasMajority yX6_hasMajority ∈ AG := List.mem_filter.mpr ⟨Q5_4i (List.mem_of_getElem? (i := 10) rfl), rfl⟩
theorem q_1081 : Cond.code yX6_hasMajority cX6_hasMajority 1 (some .boolean) ∈ AG := List.mem_filter.mpr ⟨Q5_4i (List.mem_of_getElem? (i := 11) rfl), rfl⟩
theorem q_1082 : Cond.methodLink RL 162 yX6_agreeing ∈ AG := List.mem_filter.mpr ⟨Q5_4i (List.mem_of_getElem? (i := 12) rfl), rfl⟩
theorem q_1083 : Cond.instanceMethod yX6_agreeing ∈ AG := List.mem_filter.mpr ⟨Q5_4i (List.mem_of_getElem? (i := 13) rfl), rfl⟩
theorem q_1084 : Cond.selects RX6 yX6_agreeing yX6_agreeing ∈ AG := List.mem_filter.mpr ⟨Q5_4i (List.mem_of_getElem? (i := 14) rfl), rfl⟩
theorem q_1085 : Cond.code yX6_agreeing cX6_agreeing 1 (some .int) ∈ AG := List.mem_filter.mpr ⟨Q5_4i (List.mem_of_getElem? (i := 15) rfl), rfl⟩
theorem q_1086 : Cond.methodLink RX6 208 yX6_set ∈ AG := List.mem_filter.mpr ⟨Q5_5i (List.mem_of_getElem? (i := 0) rfl), rfl⟩
theorem q_1087 : Cond.static yX6_set ∈ AG := List.mem_filter.mpr ⟨Q5_5i (List.mem_of_getElem? (i := 1) rfl), rfl⟩
theorem q_1088 : Cond.code yX6_set cX6_set 3 (some .int) ∈ AG := List.mem_filter.mpr ⟨Q5_5i (List.mem_of_getElem? (i := 2) rfl), rfl⟩
theorem q_1089 : Cond.methodLink RL 166 yX6_low ∈ AG := List.mem_filter.mpr ⟨Q5_5i (List.mem_of_getElem? (i := 3) rfl), rfl⟩
theorem q_1090 : Cond.instanceMethod yX6_low ∈ AG := List.mem_filter.mpr ⟨Q5_5i (List.mem_of_getElem? (i := 4) rfl), rfl⟩
theorem q_1091 : Cond.selects RX6 yX6_low yX6_low ∈ AG := List.mem_filter.mpr ⟨Q5_5i (List.mem_of_getElem? (i := 5) rfl), rfl⟩
theorem q_1092 : Cond.code yX6_low cX6_low 1 (some .long) ∈ AG := List.mem_filter.mpr ⟨Q5_5i (List.mem_of_getElem? (i := 6) rfl), rfl⟩
theorem q_1093 : Cond.methodLink RL 169 yX6_high ∈ AG := List.mem_filter.mpr ⟨Q5_5i (List.mem_of_getElem? (i := 7) rfl), rfl⟩
theorem q_1094 : Cond.instanceMethod yX6_high ∈ AG := List.mem_filter.mpr ⟨Q5_5i (List.mem_of_getElem? (i := 8) rfl), rfl⟩
theorem q_1095 : Cond.selects RX6 yX6_high yX6_high ∈ AG := List.mem_filter.mpr ⟨Q5_5i (List.mem_of_getElem? (i := 9) rfl), rfl⟩
theorem q_1096 : Cond.code yX6_high cX6_high 1 (some .long) ∈ AG := List.mem_filter.mpr ⟨Q5_5i (List.mem_of_getElem? (i := 10) rfl), rfl⟩
theorem q_1097 : Cond.methodLink RL 173 yX6_survivors ∈ AG := List.mem_filter.mpr ⟨Q5_5i (List.mem_of_getElem? (i := 11) rfl), rfl⟩
theorem q_1098 : Cond.instanceMethod yX6_survivors ∈ AG := List.mem_filter.mpr ⟨Q5_5i (List.mem_of_getElem? (i := 12) rfl), rfl⟩
theorem q_1099 : Cond.selects RX6 yX6_survivors yX6_survivors ∈ AG := List.mem_filter.mpr ⟨Q5_5i (List.mem_of_getElem? (i := 13) rfl), rfl⟩
theorem q_1100 : Cond.code yX6_survivors cX6_survivors 1 (some .int) ∈ AG := List.mem_filter.mpr ⟨Q5_5i (List.mem_of_getElem? (i := 14) rfl), rfl⟩
theorem q_1101 : Cond.methodLink RX6 212 yX6_select ∈ AG := List.mem_filter.mpr ⟨Q5_5i (List.mem_of_getElem? (i := 15) rfl), rfl⟩
theorem q_1103 : Cond.instanceMethod yX6_select ∈ AG := List.mem_filter.mpr ⟨Q5_6i (List.mem_of_getElem? (i := 1) rfl), rfl⟩
theorem q_1104 : Cond.code yX6_select cX6_select 2 none ∈ AG := List.mem_filter.mpr ⟨Q5_6i (List.mem_of_getElem? (i := 2) rfl), rfl⟩
theorem q_1105 : Cond.methodLink RX6 194 yX6_surviving ∈ AG := List.mem_filter.mpr ⟨Q5_6i (List.mem_of_getElem? (i := 3) rfl), rfl⟩
theorem q_1107 : Cond.instanceMethod yX6_surviving ∈ AG := List.mem_filter.mpr ⟨Q5_6i (List.mem_of_getElem? (i := 5) rfl), rfl⟩
theorem q_1108 : Cond.code yX6_surviving cX6_surviving 3 (some .int) ∈ AG := List.mem_filter.mpr ⟨Q5_6i (List.mem_of_getElem? (i := 6) rfl), rfl⟩
theorem q_1109 : Cond.methodLink RX6 204 yX6_removes ∈ AG := List.mem_filter.mpr ⟨Q5_6i (List.mem_of_getElem? (i := 7) rfl), rfl⟩
theorem q_1111 : Cond.instanceMethod yX6_removes ∈ AG := List.mem_filter.mpr ⟨Q5_6i (List.mem_of_getElem? (i := 9) rfl), rfl⟩
theorem q_1112 : Cond.code yX6_removes cX6_removes 6 (some .boolean) ∈ AG := List.mem_filter.mpr ⟨Q5_6i (List.mem_of_getElem? (i := 10) rfl), rfl⟩
theorem q_1113 : Cond.methodLink RX6 198 yX6_spread ∈ AG := List.mem_filter.mpr ⟨Q5_6i (List.mem_of_getElem? (i := 11) rfl), rfl⟩
theorem q_1115 : Cond.instanceMethod yX6_spread ∈ AG := List.mem_filter.mpr ⟨Q5_6i (List.mem_of_getElem? (i := 13) rfl), rfl⟩
theorem q_1116 : Cond.code yX6_spread cX6_spread 5 (some .long) ∈ AG := List.mem_filter.mpr ⟨Q5_6i (List.mem_of_getElem? (i := 14) rfl), rfl⟩
theorem q_1117 : Cond.methodLink RL 176 yX6_combinedOffset ∈ AG := List.mem_filter.mpr ⟨Q5_6i (List.mem_of_getElem? (i := 15) rfl), rfl⟩
theorem q_1118 : Cond.instanceMethod yX6_combinedOffset ∈ AG := List.mem_filter.mpr ⟨Q5_7i (List.mem_of_getElem? (i := 0) rfl), rfl⟩
theorem q_1119 : Cond.selects RX6 yX6_combinedOffset yX6_combinedOffset ∈ AG := List.mem_filter.mpr ⟨Q5_7i (List.mem_of_getElem? (i := 1) rfl), rfl⟩
theorem q_1120 : Cond.code yX6_combinedOffset cX6_combinedOffset 1 (some .long) ∈ AG := List.mem_filter.mpr ⟨Q5_7i (List.mem_of_getElem? (i := 2) rfl), rfl⟩
theorem q_1121 : Cond.methodLink RX6 215 yX6_combined ∈ AG := List.mem_filter.mpr ⟨Q5_7i (List.mem_of_getElem? (i := 3) rfl), rfl⟩
theorem q_1123 : Cond.instanceMethod yX6_combined ∈ AG := List.mem_filter.mpr ⟨Q5_7i (List.mem_of_getElem? (i := 5) rfl), rfl⟩
theorem q_1124 : Cond.code yX6_combined cX6_combined 8 (some .long) ∈ AG := List.mem_filter.mpr ⟨Q5_7i (List.mem_of_getElem? (i := 6) rfl), rfl⟩
theorem q_1125 : Cond.methodLink RL 180 yX6_peer ∈ AG := List.mem_filter.mpr ⟨Q5_7i (List.mem_of_getElem? (i := 7) rfl), rfl⟩
theorem q_1126 : Cond.instanceMethod yX6_peer ∈ AG := List.mem_filter.mpr ⟨Q5_7i (List.mem_of_getElem? (i := 8) rfl), rfl⟩
theorem q_1127 : Cond.selects RX6 yX6_peer yX6_peer ∈ AG := List.mem_filter.mpr ⟨Q5_7i (List.mem_of_getElem? (i := 9) rfl), rfl⟩
theorem q_1128 : Cond.code yX6_peer cX6_peer 1 (some .int) ∈ AG := List.mem_filter.mpr ⟨Q5_7i (List.mem_of_getElem? (i := 10) rfl), rfl⟩
theorem q_1129 : Cond.methodLink RX6 218 yX6_leader ∈ AG := List.mem_filter.mpr ⟨Q5_7i (List.mem_of_getElem? (i := 11) rfl), rfl⟩
theorem q_1131 : Cond.instanceMethod yX6_leader ∈ AG := List.mem_filter.mpr ⟨Q5_7i (List.mem_of_getElem? (i := 13) rfl), rfl⟩
theorem q_1132 : Cond.code yX6_leader cX6_leader 4 (some .int) ∈ AG := List.mem_filter.mpr ⟨Q5_7i (List.mem_of_getElem? (i := 14) rfl), rfl⟩
theorem q_1133 : Cond.methodLink RL 183 yX6_synchronize ∈ AG := List.mem_filter.mpr ⟨Q5_7i (List.mem_of_getElem? (i := 15) rfl), rfl⟩
theorem q_1134 : Cond.instanceMethod yX6_synchronize ∈ AG := List.mem_filter.mpr ⟨Q5_8i (List.mem_of_getElem? (i := 0) rfl), rfl⟩
theorem q_1135 : Cond.selects RX6 yX6_synchronize yX6_synchronize ∈ AG := List.mem_filter.mpr ⟨Q5_8i (List.mem_of_getElem? (i := 1) rfl), rfl⟩
theorem q_1136 : Cond.code yX6_synchronize cX6_synchronize 7 (some .int) ∈ AG := List.mem_filter.mpr ⟨Q5_8i (List.mem_of_getElem? (i := 2) rfl), rfl⟩
theorem q_1137 : Cond.constantLong RX6 223 (4) ∈ AG := List.mem_filter.mpr ⟨Q5_8i (List.mem_of_getElem? (i := 3) rfl), rfl⟩
theorem q_1138 : Cond.methodLink RX6 225 yX6_held ∈ AG := List.mem_filter.mpr ⟨Q5_8i (List.mem_of_getElem? (i := 4) rfl), rfl⟩
theorem q_1139 : Cond.static yX6_held ∈ AG := List.mem_filter.mpr ⟨Q5_8i (List.mem_of_getElem? (i := 5) rfl), rfl⟩
theorem q_1140 : Cond.code yX6_held cX6_held 2 (some .int) ∈ AG := List.mem_filter.mpr ⟨Q5_8i (List.mem_of_getElem? (i := 6) rfl), rfl⟩
theorem q_1141 : Cond.constantLong RX6 221 (-500) ∈ AG := List.mem_filter.mpr ⟨Q5_8i (List.mem_of_getElem? (i := 7) rfl), rfl⟩
theorem q_1142 : Cond.constantLong RX6 228 (128000) ∈ AG := List.mem_filter.mpr ⟨Q5_8i (List.mem_of_getElem? (i := 8) rfl), rfl⟩
theorem q_1143 : Cond.methodLink RL 187 yX6_stratum ∈ AG := List.mem_filter.mpr ⟨Q5_8i (List.mem_of_getElem? (i := 9) rfl), rfl⟩
theorem q_1144 : Cond.instanceMethod yX6_stratum ∈ AG := List.mem_filter.mpr ⟨Q5_8i (List.mem_of_getElem? (i := 10) rfl), rfl⟩
theorem q_1145 : Cond.selects RX6 yX6_stratum yX6_stratum ∈ AG := List.mem_filter.mpr ⟨Q5_8i (List.mem_of_getElem? (i := 11) rfl), rfl⟩
theorem q_1146 : Cond.code yX6_stratum cX6_stratum 1 (some .int) ∈ AG := List.mem_filter.mpr ⟨Q5_8i (List.mem_of_getElem? (i := 12) rfl), rfl⟩
theorem q_1147 : Cond.methodLink RL 191 yX6_steps ∈ AG := List.mem_filter.mpr ⟨Q5_8i (List.mem_of_getElem? (i := 13) rfl), rfl⟩
theorem q_1148 : Cond.instanceMethod yX6_steps ∈ AG := List.mem_filter.mpr ⟨Q5_8i (List.mem_of_getElem? (i := 14) rfl), rfl⟩
theorem q_1149 : Cond.selects RX6 yX6_steps yX6_steps ∈ AG := List.mem_filter.mpr ⟨Q5_8i (List.mem_of_getElem? (i := 15) rfl), rfl⟩
theorem q_1150 : Cond.code yX6_steps cX6_steps 1 (some .int) ∈ AG := List.mem_filter.mpr ⟨Q5_9i (List.mem_of_getElem? (i := 0) rfl), rfl⟩
theorem q_1151 : Cond.methodLink RL 195 yX6_synchronizations ∈ AG := List.mem_filter.mpr ⟨Q5_9i (List.mem_of_getElem? (i := 1) rfl), rfl⟩
theorem q_1152 : Cond.instanceMethod yX6_synchronizations ∈ AG := List.mem_filter.mpr ⟨Q5_9i (List.mem_of_getElem? (i := 2) rfl), rfl⟩
theorem q_1153 : Cond.selects RX6 yX6_synchronizations yX6_synchronizations ∈ AG := List.mem_filter.mpr ⟨Q5_9i (List.mem_of_getElem? (i := 3) rfl), rfl⟩
theorem q_1154 : Cond.code yX6_synchronizations cX6_synchronizations 1 (some .int) ∈ AG := List.mem_filter.mpr ⟨Q5_9i (List.mem_of_getElem? (i := 4) rfl), rfl⟩
def NG : List Cond := [Cond.methodLinkNest RX5 9 yX1_init "Clockhouse", Cond.methodLinkNest RX5 18 yX0_init "Clockhouse", Cond.arrayOver (.object "Clockhouse$Server"), Cond.methodLinkNest RX5 31 yX3_init "Clockhouse", Cond.methodLinkNest RX3 11 yX2_init "Clockhouse", Cond.methodLinkNest RX5 36 yX4_init "Clockhouse", Cond.methodLinkNest RX4 11 yX2_init "Clockhouse", Cond.castable "java/lang/IllegalArgumentException" "java/lang/IllegalArgumentException", Cond.declares ⟨"java/lang/RuntimeException", "<init>", "()V"⟩, Cond.declares ⟨"java/lang/RuntimeException", "<init>", "(Ljava/lang/String;)V"⟩, Cond.declares ⟨"java/lang/Exception", "<init>", "()V"⟩, Cond.declares ⟨"java/lang/Exception", "<init>", "(Ljava/lang/String;)V"⟩, Cond.declares ⟨"java/lang/Throwable", "<init>", "()V"⟩, Cond.declares ⟨"java/lang/Throwable", "<init>", "(Ljava/lang/String;)V"⟩, Cond.castable "java/lang/IllegalStateException" "java/lang/IllegalStateException", Cond.castable "java/lang/IndexOutOfBoundsException" "java/lang/IndexOutOfBoundsException"]
theorem NG_tbl : ∀ w ∈ NG, w ∈ lw_tbl := (List.forall_mem_cons.mpr ⟨Q1_1i (List.mem_of_getElem? (i := 10) rfl), (List.forall_mem_cons.mpr ⟨Q1_2i (List.mem_of_getElem? (i := 13) rfl), (List.forall_mem_cons.mpr ⟨Q1_3i (List.mem_of_getElem? (i := 9) rfl), (List.forall_mem_cons.mpr ⟨Q1_3i (List.mem_of_getElem? (i := 12) rfl), (List.forall_mem_cons.mpr ⟨Q1_4i (List.mem_of_getElem? (i := 2) rfl), (List.forall_mem_cons.mpr ⟨Q1_6i (List.mem_of_getElem? (i := 8) rfl), (List.forall_mem_cons.mpr ⟨Q1_6i (List.mem_of_getElem? (i := 13) rfl), (List.forall_mem_cons.mpr ⟨Q2_11i (List.mem_of_getElem? (i := 1) rfl), (List.forall_mem_cons.mpr ⟨Q2_11i (List.mem_of_getElem? (i := 2) rfl), (List.forall_mem_cons.mpr ⟨Q2_11i (List.mem_of_getElem? (i := 3) rfl), (List.forall_mem_cons.mpr ⟨Q2_11i (List.mem_of_getElem? (i := 4) rfl), (List.forall_mem_cons.mpr ⟨Q2_11i (List.mem_of_getElem? (i := 5) rfl), (List.forall_mem_cons.mpr ⟨Q2_11i (List.mem_of_getElem? (i := 6) rfl), (List.forall_mem_cons.mpr ⟨Q2_11i (List.mem_of_getElem? (i := 7) rfl), (List.forall_mem_cons.mpr ⟨Q3_0i (List.mem_of_getElem? (i := 13) rfl), (List.forall_mem_cons.mpr ⟨Q3_6i (List.mem_of_getElem? (i := 6) rfl), (List.forall_mem_nil _)⟩)⟩)⟩)⟩)⟩)⟩)⟩)⟩)⟩)⟩)⟩)⟩)⟩)⟩)⟩)⟩)
end
section
/-! memory of numbers, worlds by a layout, and their rows -/
abbrev Mem : Type := (Nat → Int32) × (Nat → Int64) × (Nat → Nat → Int32) × (Nat → Nat → Int64)
abbrev Dsc : Type := Nat × Nat × Nat × List (Nat × Nat)
def gI (M : Mem) (i : Nat) : Int32 := M.1 i
def gL (M : Mem) (i : Nat) : Int64 := M.2.1 i
def gB (M : Mem) (a : Nat) : Nat → Int32 := M.2.2.1 a
def gJ (M : Mem) (a : Nat) : Nat → Int64 := M.2.2.2 a
def sI (M : Mem) (i : Nat) (v : Int32) : Mem := (fun j => if j = i then v else M.1 j, M.2)
def sL (M : Mem) (i : Nat) (v : Int64) : Mem := (M.1, fun j => if j = i then v else M.2.1 j, M.2.2)
def sB (M : Mem) (a : Nat) (f : Nat → Int32) : Mem := (M.1, M.2.1, fun b => if b = a then f else M.2.2.1 b, M.2.2.2)
def sJ (M : Mem) (a : Nat) (f : Nat → Int64) : Mem := (M.1, M.2.1, M.2.2.1, fun b => if b = a then f else M.2.2.2 b)
def fvl (ad : Nat → Nat) (M : Mem) (d : Nat × Nat) : Value := match d.1 with
  | 0 => .ref (ad d.2)
  | 1 => .int (gI M d.2)
  | _ => .long (gL M d.2)
def cel (cA : Nat → ClassId) (ad : Nat → Nat) (M : Mem) (q : Dsc) : va_E := match q.1 with
  | 0 => .inr (q.2.1, q.2.2.2.map (fvl ad M))
  | 1 => .inl (cA 0, q.2.2.1, .inl (gB M q.2.1))
  | 2 => .inl (cA 1, q.2.2.1, .inr (.inl (gJ M q.2.1)))
  | 3 => .inl (cA 2, q.2.2.1, .inl (gB M q.2.1))
  | _ => .inl (cA 3, q.2.2.1, .inr (.inr (.inr (.inr (fun j => some (ad (q.2.1 + j)))))))
def wld (N : Nat) (lay : Nat → Dsc) (cA : Nat → ClassId) (ad : Nat → Nat) (M : Mem) : va_W := (List.range N).map fun k => (ad k, cel cA ad M (lay k))
theorem wld_at {N : Nat} {lay : Nat → Dsc} {cA : Nat → ClassId} {ad : Nat → Nat} {M : Mem} {k : Nat} (hk : k < N) : (wld N lay cA ad M)[k]? = some (ad k, cel cA ad M (lay k)) := by
  simp [wld, hk]
theorem wld_inv {N : Nat} {lay : Nat → Dsc} {cA : Nat → ClassId} {ad : Nat → Nat} {M : Mem} {k : Nat} {q : Nat × va_E} (h : (wld N lay cA ad M)[k]? = some q) : k < N ∧ q = (ad k, cel cA ad M (lay k)) := by
  by_cases hk : k < N
  · rw [wld_at hk] at h
    exact ⟨hk, (Option.some.inj h).symm⟩
  · rw [List.getElem?_eq_none (by simp [wld]; omega)] at h
    cases h
theorem wld_set {N : Nat} {lay : Nat → Dsc} {cA : Nat → ClassId} {ad : Nat → Nat} {M M' : Mem} {k : Nat} {e : va_E} (he : cel cA ad M' (lay k) = e) (ho : ∀ j, j < N → j ≠ k → cel cA ad M' (lay j) = cel cA ad M (lay j)) : (wld N lay cA ad M).set k (ad k, e) = wld N lay cA ad M' := by
  apply List.ext_getElem?
  intro j
  by_cases hj : j < N
  · by_cases hjk : j = k
    · subst hjk
      rw [wld_at hj, List.getElem?_set_self (by simp [wld]; exact hj), he]
    · rw [List.getElem?_set_ne (Ne.symm hjk), wld_at hj, wld_at hj, ho j hj hjk]
  · rw [List.getElem?_eq_none (by simp [wld]; omega), List.getElem?_eq_none (by simp [wld]; omega)]
def adS (N : Nat) (ad : Nat → Nat) : Nat → Prop := fun q => ∃ k, k < N ∧ q = ad k
def Inj (N : Nat) (ad : Nat → Nat) : Prop := ∀ i j, i < N → j < N → ad i = ad j → i = j
theorem wld_D {N : Nat} {lay : Nat → Dsc} {cA : Nat → ClassId} {ad : Nat → Nat} {M : Mem} {A : Nat → Prop} (hI : Inj N ad) (hA : ∀ q, adS N ad q → A q) : va_D A (wld N lay cA ad M) := by
  refine ⟨fun i j p q hi hj hpq => ?_, fun k q hk => ?_⟩
  · obtain ⟨h1, rfl⟩ := wld_inv hi
    obtain ⟨h2, rfl⟩ := wld_inv hj
    exact hI i j h1 h2 hpq
  · obtain ⟨h1, rfl⟩ := wld_inv hk
    exact hA _ ⟨k, h1, rfl⟩
/-- a field's number stands in one place only; an array's number too -/
def uF (N : Nat) (lay : Nat → Dsc) (k f : Nat) (d : Nat × Nat) : Bool := (List.range N).all fun k' => (List.range (lay k').2.2.2.length).all fun f' => decide ((lay k').2.2.2[f']? = some d → k' = k ∧ f' = f)
theorem uF_spec {N : Nat} {lay : Nat → Dsc} {k f : Nat} {d : Nat × Nat} (h : uF N lay k f d = true) {k' f' : Nat} (hk : k' < N) (hf : (lay k').2.2.2[f']? = some d) : k' = k ∧ f' = f := by
  have h1 := List.all_eq_true.mp h k' (List.mem_range.mpr hk)
  have h2 := List.all_eq_true.mp h1 f' (List.mem_range.mpr (List.getElem?_eq_some_iff.mp hf).1)
  exact of_decide_eq_true h2 hf
def uA (N : Nat) (lay : Nat → Dsc) (k : Nat) (kd : Nat → Bool) (a : Nat) : Bool := (List.range N).all fun k' => decide (kd (lay k').1 = true → (lay k').2.1 = a → k' = k)
theorem uA_spec {N : Nat} {lay : Nat → Dsc} {k a : Nat} {kd : Nat → Bool} (h : uA N lay k kd a = true) {k' : Nat} (hk : k' < N) (h1 : kd (lay k').1 = true) (h2 : (lay k').2.1 = a) : k' = k :=
  of_decide_eq_true (List.all_eq_true.mp h k' (List.mem_range.mpr hk)) h1 h2
theorem fvl_sI {ad : Nat → Nat} {M : Mem} {i : Nat} {v : Int32} {d : Nat × Nat} (h : d ≠ (1, i)) : fvl ad (sI M i v) d = fvl ad M d := by
  obtain ⟨a, b⟩ := d
  match a with
  | 0 => rfl
  | 1 =>
    have hb : b ≠ i := fun e => h (by rw [e])
    simp [fvl, gI, sI, hb]
  | n + 2 => simp [fvl, gL, sI]
theorem fvl_sL {ad : Nat → Nat} {M : Mem} {i : Nat} {v : Int64} {d : Nat × Nat} (h : d.1 < 2 ∨ d.2 ≠ i) : fvl ad (sL M i v) d = fvl ad M d := by
  obtain ⟨a, b⟩ := d
  match a with
  | 0 => rfl
  | 1 => rfl
  | n + 2 =>
    have hb : b ≠ i := h.elim (fun h => absurd h (by show ¬ n + 2 < 2; omega)) id
    simp [fvl, gL, sL, hb]
theorem cel_obj {cA : Nat → ClassId} {ad : Nat → Nat} {M : Mem} {q : Dsc} {ci : Nat} {n : Nat} {fds : List (Nat × Nat)} (h : q = (0, ci, n, fds)) : cel cA ad M q = .inr (ci, fds.map (fvl ad M)) := by subst h; rfl
/-- layouts say 2 for a long field, nothing above -/
def lOk (N : Nat) (lay : Nat → Dsc) : Bool := (List.range N).all fun k => (lay k).2.2.2.all (fun d => decide (d.1 ≤ 2)) && decide ((lay k).1 ≠ 0 → (lay k).2.2.2 = [])
theorem set_sI {N : Nat} {lay : Nat → Dsc} {cA : Nat → ClassId} {ad : Nat → Nat} {M : Mem} {k f i ci n : Nat} {fds : List (Nat × Nat)} {v : Int32} (hk : k < N) (hl : lay k = (0, ci, n, fds)) (hf : fds[f]? = some (1, i)) (hu : uF N lay k f (1, i) = true) :
    (wld N lay cA ad M).set k (ad k, .inr (ci, (fds.map (fvl ad M)).set f (.int v))) = wld N lay cA ad (sI M i v) := by
  refine wld_set ?_ ?_
  · rw [cel_obj hl]
    congr 2
    apply List.ext_getElem?
    intro j
    rw [List.getElem?_map]
    by_cases hj : j = f
    · subst hj
      rw [hf, List.getElem?_set_self (by rw [List.length_map]; exact (List.getElem?_eq_some_iff.mp hf).1)]
      simp [fvl, gI, sI]
    · rw [List.getElem?_set_ne (Ne.symm hj), List.getElem?_map]
      cases hd : fds[j]? with
      | none => rfl
      | some d =>
        have : d ≠ (1, i) := fun e => hj (uF_spec hu hk (by rw [hl]; show fds[j]? = _; rw [hd, e])).2
        simp only [Option.map_some, fvl_sI this]
  · intro j hj hjk
    have hd : ∀ d ∈ (lay j).2.2.2, d ≠ (1, i) := by
      intro d hd e
      obtain ⟨f', hf'⟩ := List.getElem?_of_mem hd
      exact hjk (uF_spec hu hj (by rw [hf', e])).1
    generalize lay j = q at hd
    obtain ⟨a, b, c, fs⟩ := q
    match a with
    | 0 =>
      show Sum.inr _ = Sum.inr _
      congr 2
      exact List.map_congr_left fun d h => fvl_sI (hd d h)
    | 1 => rfl
    | 2 => rfl
    | 3 => rfl
    | n + 4 => rfl
theorem set_sL {N : Nat} {lay : Nat → Dsc} {cA : Nat → ClassId} {ad : Nat → Nat} {M : Mem} {k f i ci n : Nat} {fds : List (Nat × Nat)} {v : Int64} (hk : k < N) (hl : lay k = (0, ci, n, fds)) (hf : fds[f]? = some (2, i)) (hu : uF N lay k f (2, i) = true) (hok : lOk N lay = true) :
    (wld N lay cA ad M).set k (ad k, .inr (ci, (fds.map (fvl ad M)).set f (.long v))) = wld N lay cA ad (sL M i v) := by
  have hle : ∀ j, j < N → ∀ d ∈ (lay j).2.2.2, d.1 ≤ 2 := by
    intro j hj d hd
    have h1 := List.all_eq_true.mp hok j (List.mem_range.mpr hj)
    simp only [Bool.and_eq_true] at h1
    exact of_decide_eq_true (List.all_eq_true.mp h1.1 d hd)
  have key : ∀ d : Nat × Nat, d.1 ≤ 2 → d ≠ (2, i) → (d.1 < 2 ∨ d.2 ≠ i) := by
    intro d h1 h2
    obtain ⟨a, b⟩ := d
    by_cases ha : a < 2
    · exact Or.inl ha
    · right
      intro e
      exact h2 (by simp only at h1 e; rw [e, show a = 2 by omega])
  refine wld_set ?_ ?_
  · rw [cel_obj hl]
    congr 2
    apply List.ext_getElem?
    intro j
    rw [List.getElem?_map]
    by_cases hj : j = f
    · subst hj
      rw [hf, List.getElem?_set_self (by rw [List.length_map]; exact (List.getElem?_eq_some_iff.mp hf).1)]
      simp [fvl, gL, sL]
    · rw [List.getElem?_set_ne (Ne.symm hj), List.getElem?_map]
      cases hd : fds[j]? with
      | none => rfl
      | some d =>
        have h2 : d ≠ (2, i) := fun e => hj (uF_spec hu hk (by rw [hl]; show fds[j]? = _; rw [hd, e])).2
        have h1 : d.1 ≤ 2 := hle k hk d (by rw [hl]; exact List.mem_of_getElem? hd)
        simp only [Option.map_some, fvl_sL (key d h1 h2)]
  · intro j hj hjk
    have hd : ∀ d ∈ (lay j).2.2.2, (d.1 < 2 ∨ d.2 ≠ i) := by
      intro d hd
      refine key d (hle j hj d hd) (fun e => ?_)
      obtain ⟨f', hf'⟩ := List.getElem?_of_mem hd
      exact hjk (uF_spec hu hj (by rw [hf', e])).1
    generalize lay j = q at hd
    obtain ⟨a, b, c, fs⟩ := q
    match a with
    | 0 =>
      show Sum.inr _ = Sum.inr _
      congr 2
      exact List.map_congr_left fun d h => fvl_sL (hd d h)
    | 1 => rfl
    | 2 => rfl
    | 3 => rfl
    | n + 4 => rfl
theorem set_sJ {N : Nat} {lay : Nat → Dsc} {cA : Nat → ClassId} {ad : Nat → Nat} {M : Mem} {k a n : Nat} {fds : List (Nat × Nat)} {g : Nat → Int64} (hl : lay k = (2, a, n, fds)) (hu : uA N lay k (fun x => x == 2) a = true) :
    (wld N lay cA ad M).set k (ad k, .inl (cA 1, n, .inr (.inl g))) = wld N lay cA ad (sJ M a g) := by
  refine wld_set ?_ ?_
  · rw [hl]
    show Sum.inl (cA 1, n, Sum.inr (Sum.inl (gJ (sJ M a g) a))) = _
    simp [gJ, sJ]
  · intro j hj hjk
    have hd := uA_spec (k' := j) hu hj
    generalize lay j = q at hd
    obtain ⟨x, b, c, fs⟩ := q
    match x with
    | 0 =>
      show Sum.inr _ = Sum.inr _
      congr 2
    | 1 => rfl
    | 2 =>
      have hb : b ≠ a := fun e => hjk (hd rfl e)
      show Sum.inl (cA 1, c, Sum.inr (Sum.inl (gJ (sJ M a g) b))) = Sum.inl (cA 1, c, Sum.inr (Sum.inl (gJ M b)))
      simp [gJ, sJ, hb]
    | 3 => rfl
    | n + 4 => rfl
theorem set_sB {N : Nat} {lay : Nat → Dsc} {cA : Nat → ClassId} {ad : Nat → Nat} {M : Mem} {k a n kd : Nat} {fds : List (Nat × Nat)} {g : Nat → Int32} (hl : lay k = (kd, a, n, fds)) (hkd : kd = 1 ∨ kd = 3) (hu : uA N lay k (fun x => x == 1 || x == 3) a = true) :
    (wld N lay cA ad M).set k (ad k, .inl (cA (if kd = 1 then 0 else 2), n, .inl g)) = wld N lay cA ad (sB M a g) := by
  refine wld_set ?_ ?_
  · rw [hl]
    rcases hkd with rfl | rfl
    · show Sum.inl (cA 0, n, Sum.inl (gB (sB M a g) a)) = _
      simp [gB, sB]
    · show Sum.inl (cA 2, n, Sum.inl (gB (sB M a g) a)) = _
      simp [gB, sB]
  · intro j hj hjk
    have hd := uA_spec (k' := j) hu hj
    generalize lay j = q at hd
    obtain ⟨x, b, c, fs⟩ := q
    match x with
    | 0 =>
      show Sum.inr _ = Sum.inr _
      congr 2
    | 1 =>
      have hb : b ≠ a := fun e => hjk (hd rfl e)
      show Sum.inl (cA 0, c, Sum.inl (gB (sB M a g) b)) = Sum.inl (cA 0, c, Sum.inl (gB M b))
      simp [gB, sB, hb]
    | 2 => rfl
    | 3 =>
      have hb : b ≠ a := fun e => hjk (hd rfl e)
      show Sum.inl (cA 2, c, Sum.inl (gB (sB M a g) b)) = Sum.inl (cA 2, c, Sum.inl (gB M b))
      simp [gB, sB, hb]
    | n + 4 => rfl
/-! the four array classes -/
def tys4 (cA : Nat → ClassId) : List (ClassId × FieldType) := [(cA 0, .int), (cA 1, .long), (cA 2, .boolean), (cA 3, .object "Clockhouse$Server")]
def PCw (N : Nat) (lay : Nat → Dsc) (dC : Nat → ClassId) (dI : Nat → Nat → Nat) (cA : Nat → ClassId) (ad : Nat → Nat) (M : Mem) (U : State) : Prop := va_P (dC, dI) vwCl (wld N lay cA ad M) U.heap ∧ va_K (dC, dI) vwCl (tys4 cA) U
theorem PCw_blind {N : Nat} {lay : Nat → Dsc} {dC : Nat → ClassId} {dI : Nat → Nat → Nat} {cA : Nat → ClassId} {ad : Nat → Nat} {M : Mem} {av : List Value} : FrameBlind (va_Pc av (PCw N lay dC dI cA ad M)) :=
  fun a U g mk q => ⟨q.1, q.2.1, va_K.moved (u := U) (U := U.calling g mk a) (Vm.Alike.refl U.vm) q.2.2⟩
/-! the names that every walk has -/
theorem cMet {l : Launch} {y : MethodName} {b : ByteArray} {n : Nat} {ret : Option FieldType} {rm : Room} {N : Nat} {lay : Nat → Dsc} {dC : Nat → ClassId} {dI : Nat → Nat → Nat} {cA : Nat → ClassId} {ad : Nat → Nat} {M : Mem} {av : List Value} {Qc : Array Value → State → Outcome → State → Prop}
    (hy : plainName y.cls = true) (hn : (lg_sl av).length ≤ n)
    (body : ∀ (p : Program) (e : Env) (s : State) (m : MethodId) (below : List Frame) (meth : Method) (c : Code) (ls : Array Slot), p.tables.exec = Jvm.exec → c.code = b → meth.sig.returnType = ret → c.maxLocals = n → meth.locks = false → s.vm.findClass y.cls = some m.cls → (∀ w ∈ AG, w.before av.toArray s = true) →
      va_K (dC, dI) vwCl (tys4 cA) s → va_P (dC, dI) vwCl (wld N lay cA ad M) s.heap → va_S (adS N ad) s.heap s.heap [] → lv_has ls n (lv_args 0 av) →
      W p l e rm s m av.toArray below meth c s.heap [] 0 0 (MQ below Qc av.toArray s 0 0 (adS N ad)) (F0 m 0 ls [])) :
    Met l y (.code y b n ret :: AG) rm (va_Pc av (PCw N lay dC dI cA ad M)) Qc 0 0 (adS N ad) := by
  refine Met.ofW (cc := b) (maxL := n) (ret := ret) hy rfl ?_
  intro p e s m args below meth c s₁ B hml hv
  obtain ⟨rfl, hP, hK⟩ := hv
  have hts := atoms_spec (ws := Cond.code y b n ret :: AG) B.pre
  rw [lg_entry_eq]
  exact body p e s m below meth c _ B.exec B.bytes B.returns hml B.notSynchronized (findClass_of_methodNamed B.named) (fun w h => hts w (List.mem_cons_of_mem _ h)) hK hP va_S.rf (lv_entry av hn)
end
section
section ROWS
variable {p : Program} {l : Launch} {e : Env} {R : Room} {s : State} {m : MethodId} {args : Array Value} {below : List Frame} {meth : Method} {c : Code} {H : Heap} {locs : List Loc} {cells slots : Nat} {Q : State → Prop}
variable {cc : ByteArray} {pc : Nat} {ls : Array Slot} {rest : List Value} {N : Nat} {lay : Nat → Dsc} {dC : Nat → ClassId} {dI : Nat → Nat → Nat} {cA : Nat → ClassId} {ad : Nat → Nat} {M : Mem} {A : Nat → Prop} {H0 : Heap}
/-! branches in one form: x < y, y < x, x = y -/
theorem jI_lt (hx : p.tables.exec = Jvm.exec) (hb : c.code = cc) {x y : Int32} {off : Int} {tgt : Nat} (hdg : decode cc pc = .ok (.if_icmp .lt off, 3)) (ht : (pc : Int) + off = (tgt : Int))
    (kt : x < y → W p l e R s m args below meth c H locs cells slots Q (F0 m tgt ls rest)) (kf : ¬ x < y → W p l e R s m args below meth c H locs cells slots Q (F0 m (pc + 3) ls rest)) : W p l e R s m args below meth c H locs cells slots Q (F0 m pc ls (.int y :: .int x :: rest)) := lv_icmp_lt hx hb hdg ht kt kf
theorem i32_le {x y : Int32} : y ≤ x ↔ ¬ x < y := by rw [Int32.lt_iff_toInt_lt, Int32.le_iff_toInt_le]; omega
theorem i64_le {x y : Int64} : y ≤ x ↔ ¬ x < y := by rw [Int64.lt_iff_toInt_lt, Int64.le_iff_toInt_le]; omega
theorem jI_ge (hx : p.tables.exec = Jvm.exec) (hb : c.code = cc) {x y : Int32} {off : Int} {tgt : Nat} (hdg : decode cc pc = .ok (.if_icmp .ge off, 3)) (ht : (pc : Int) + off = (tgt : Int))
    (kt : x < y → W p l e R s m args below meth c H locs cells slots Q (F0 m (pc + 3) ls rest)) (kf : ¬ x < y → W p l e R s m args below meth c H locs cells slots Q (F0 m tgt ls rest)) : W p l e R s m args below meth c H locs cells slots Q (F0 m pc ls (.int y :: .int x :: rest)) :=
  lv_icmp_ge hx hb hdg ht (fun h => kf (i32_le.mp h)) (fun h => kt (Decidable.not_not.mp (fun g => h (i32_le.mpr g))))
theorem jI_gt (hx : p.tables.exec = Jvm.exec) (hb : c.code = cc) {x y : Int32} {off : Int} {tgt : Nat} (hdg : decode cc pc = .ok (.if_icmp .gt off, 3)) (ht : (pc : Int) + off = (tgt : Int))
    (kt : y < x → W p l e R s m args below meth c H locs cells slots Q (F0 m tgt ls rest)) (kf : ¬ y < x → W p l e R s m args below meth c H locs cells slots Q (F0 m (pc + 3) ls rest)) : W p l e R s m args below meth c H locs cells slots Q (F0 m pc ls (.int y :: .int x :: rest)) := lv_icmp_gt hx hb hdg ht kt kf
theorem jI_le (hx : p.tables.exec = Jvm.exec) (hb : c.code = cc) {x y : Int32} {off : Int} {tgt : Nat} (hdg : decode cc pc = .ok (.if_icmp .le off, 3)) (ht : (pc : Int) + off = (tgt : Int))
    (kt : y < x → W p l e R s m args below meth c H locs cells slots Q (F0 m (pc + 3) ls rest)) (kf : ¬ y < x → W p l e R s m args below meth c H locs cells slots Q (F0 m tgt ls rest)) : W p l e R s m args below meth c H locs cells slots Q (F0 m pc ls (.int y :: .int x :: rest)) :=
  lv_icmp_le hx hb hdg ht (fun h => kf (i32_le.mp h)) (fun h => kt (Decidable.not_not.mp (fun g => h (i32_le.mpr g))))
theorem jI_eq (hx : p.tables.exec = Jvm.exec) (hb : c.code = cc) {x y : Int32} {off : Int} {tgt : Nat} (hdg : decode cc pc = .ok (.if_icmp .eq off, 3)) (ht : (pc : Int) + off = (tgt : Int))
    (kt : x = y → W p l e R s m args below meth c H locs cells slots Q (F0 m tgt ls rest)) (kf : ¬ x = y → W p l e R s m args below meth c H locs cells slots Q (F0 m (pc + 3) ls rest)) : W p l e R s m args below meth c H locs cells slots Q (F0 m pc ls (.int y :: .int x :: rest)) := lv_icmp_eq hx hb hdg ht kt kf
theorem jI_ne (hx : p.tables.exec = Jvm.exec) (hb : c.code = cc) {x y : Int32} {off : Int} {tgt : Nat} (hdg : decode cc pc = .ok (.if_icmp .ne off, 3)) (ht : (pc : Int) + off = (tgt : Int))
    (kt : x = y → W p l e R s m args below meth c H locs cells slots Q (F0 m (pc + 3) ls rest)) (kf : ¬ x = y → W p l e R s m args below meth c H locs cells slots Q (F0 m tgt ls rest)) : W p l e R s m args below meth c H locs cells slots Q (F0 m pc ls (.int y :: .int x :: rest)) :=
  lv_icmp_ne hx hb hdg ht (fun h => kf h) (fun h => kt h)
theorem j0_lt (hx : p.tables.exec = Jvm.exec) (hb : c.code = cc) {x : Int32} {off : Int} {tgt : Nat} (hdg : decode cc pc = .ok (.ifCond .lt off, 3)) (ht : (pc : Int) + off = (tgt : Int))
    (kt : x < 0 → W p l e R s m args below meth c H locs cells slots Q (F0 m tgt ls rest)) (kf : ¬ x < 0 → W p l e R s m args below meth c H locs cells slots Q (F0 m (pc + 3) ls rest)) : W p l e R s m args below meth c H locs cells slots Q (F0 m pc ls (.int x :: rest)) := lv_if_lt hx hb hdg ht kt kf
theorem j0_ge (hx : p.tables.exec = Jvm.exec) (hb : c.code = cc) {x : Int32} {off : Int} {tgt : Nat} (hdg : decode cc pc = .ok (.ifCond .ge off, 3)) (ht : (pc : Int) + off = (tgt : Int))
    (kt : x < 0 → W p l e R s m args below meth c H locs cells slots Q (F0 m (pc + 3) ls rest)) (kf : ¬ x < 0 → W p l e R s m args below meth c H locs cells slots Q (F0 m tgt ls rest)) : W p l e R s m args below meth c H locs cells slots Q (F0 m pc ls (.int x :: rest)) :=
  lv_if_ge hx hb hdg ht (fun h => kf (i32_le.mp h)) (fun h => kt (Decidable.not_not.mp (fun g => h (i32_le.mpr g))))
theorem j0_gt (hx : p.tables.exec = Jvm.exec) (hb : c.code = cc) {x : Int32} {off : Int} {tgt : Nat} (hdg : decode cc pc = .ok (.ifCond .gt off, 3)) (ht : (pc : Int) + off = (tgt : Int))
    (kt : 0 < x → W p l e R s m args below meth c H locs cells slots Q (F0 m tgt ls rest)) (kf : ¬ 0 < x → W p l e R s m args below meth c H locs cells slots Q (F0 m (pc + 3) ls rest)) : W p l e R s m args below meth c H locs cells slots Q (F0 m pc ls (.int x :: rest)) := lv_if_gt hx hb hdg ht kt kf
theorem j0_le (hx : p.tables.exec = Jvm.exec) (hb : c.code = cc) {x : Int32} {off : Int} {tgt : Nat} (hdg : decode cc pc = .ok (.ifCond .le off, 3)) (ht : (pc : Int) + off = (tgt : Int))
    (kt : 0 < x → W p l e R s m args below meth c H locs cells slots Q (F0 m (pc + 3) ls rest)) (kf : ¬ 0 < x → W p l e R s m args below meth c H locs cells slots Q (F0 m tgt ls rest)) : W p l e R s m args below meth c H locs cells slots Q (F0 m pc ls (.int x :: rest)) :=
  lv_if_le hx hb hdg ht (fun h => kf (i32_le.mp h)) (fun h => kt (Decidable.not_not.mp (fun g => h (i32_le.mpr g))))
theorem j0_eq (hx : p.tables.exec = Jvm.exec) (hb : c.code = cc) {x : Int32} {off : Int} {tgt : Nat} (hdg : decode cc pc = .ok (.ifCond .eq off, 3)) (ht : (pc : Int) + off = (tgt : Int))
    (kt : x = 0 → W p l e R s m args below meth c H locs cells slots Q (F0 m tgt ls rest)) (kf : ¬ x = 0 → W p l e R s m args below meth c H locs cells slots Q (F0 m (pc + 3) ls rest)) : W p l e R s m args below meth c H locs cells slots Q (F0 m pc ls (.int x :: rest)) := lv_if_eq hx hb hdg ht kt kf
theorem j0_ne (hx : p.tables.exec = Jvm.exec) (hb : c.code = cc) {x : Int32} {off : Int} {tgt : Nat} (hdg : decode cc pc = .ok (.ifCond .ne off, 3)) (ht : (pc : Int) + off = (tgt : Int))
    (kt : x = 0 → W p l e R s m args below meth c H locs cells slots Q (F0 m (pc + 3) ls rest)) (kf : ¬ x = 0 → W p l e R s m args below meth c H locs cells slots Q (F0 m tgt ls rest)) : W p l e R s m args below meth c H locs cells slots Q (F0 m pc ls (.int x :: rest)) :=
  lv_if_ne hx hb hdg ht (fun h => kf h) (fun h => kt h)
/-! lcmp and its branch, in one -/
theorem jL_lt (hx : p.tables.exec = Jvm.exec) (hb : c.code = cc) {x y : Int64} {off : Int} {tgt : Nat} (hd0 : decode cc pc = .ok (.lcmp, 1)) (hdg : decode cc (pc + 1) = .ok (.ifCond .lt off, 3)) (ht : ((pc + 1 : Nat) : Int) + off = (tgt : Int))
    (kt : x < y → W p l e R s m args below meth c H locs cells slots Q (F0 m tgt ls rest)) (kf : ¬ x < y → W p l e R s m args below meth c H locs cells slots Q (F0 m (pc + 4) ls rest)) : W p l e R s m args below meth c H locs cells slots Q (F0 m pc ls (.long y :: .long x :: rest)) :=
  W.lcmp hx hb hd0 (lv_if_lt hx hb hdg ht (fun h => kt ((lg_cmp_lt x y).mp h)) (fun h => kf (fun g => h ((lg_cmp_lt x y).mpr g))))
theorem jL_ge (hx : p.tables.exec = Jvm.exec) (hb : c.code = cc) {x y : Int64} {off : Int} {tgt : Nat} (hd0 : decode cc pc = .ok (.lcmp, 1)) (hdg : decode cc (pc + 1) = .ok (.ifCond .ge off, 3)) (ht : ((pc + 1 : Nat) : Int) + off = (tgt : Int))
    (kt : x < y → W p l e R s m args below meth c H locs cells slots Q (F0 m (pc + 4) ls rest)) (kf : ¬ x < y → W p l e R s m args below meth c H locs cells slots Q (F0 m tgt ls rest)) : W p l e R s m args below meth c H locs cells slots Q (F0 m pc ls (.long y :: .long x :: rest)) :=
  W.lcmp hx hb hd0 (j0_ge hx hb hdg ht (fun h => kt ((lg_cmp_lt x y).mp h)) (fun h => kf (fun g => h ((lg_cmp_lt x y).mpr g))))
theorem jL_gt (hx : p.tables.exec = Jvm.exec) (hb : c.code = cc) {x y : Int64} {off : Int} {tgt : Nat} (hd0 : decode cc pc = .ok (.lcmp, 1)) (hdg : decode cc (pc + 1) = .ok (.ifCond .gt off, 3)) (ht : ((pc + 1 : Nat) : Int) + off = (tgt : Int))
    (kt : y < x → W p l e R s m args below meth c H locs cells slots Q (F0 m tgt ls rest)) (kf : ¬ y < x → W p l e R s m args below meth c H locs cells slots Q (F0 m (pc + 4) ls rest)) : W p l e R s m args below meth c H locs cells slots Q (F0 m pc ls (.long y :: .long x :: rest)) :=
  W.lcmp hx hb hd0 (j0_gt hx hb hdg ht (fun h => kt ((lg_cmp_gt x y).mp h)) (fun h => kf (fun g => h ((lg_cmp_gt x y).mpr g))))
theorem jL_le (hx : p.tables.exec = Jvm.exec) (hb : c.code = cc) {x y : Int64} {off : Int} {tgt : Nat} (hd0 : decode cc pc = .ok (.lcmp, 1)) (hdg : decode cc (pc + 1) = .ok (.ifCond .le off, 3)) (ht : ((pc + 1 : Nat) : Int) + off = (tgt : Int))
    (kt : y < x → W p l e R s m args below meth c H locs cells slots Q (F0 m (pc + 4) ls rest)) (kf : ¬ y < x → W p l e R s m args below meth c H locs cells slots Q (F0 m tgt ls rest)) : W p l e R s m args below meth c H locs cells slots Q (F0 m pc ls (.long y :: .long x :: rest)) :=
  W.lcmp hx hb hd0 (j0_le hx hb hdg ht (fun h => kt ((lg_cmp_gt x y).mp h)) (fun h => kf (fun g => h ((lg_cmp_gt x y).mpr g))))
theorem jL_eq (hx : p.tables.exec = Jvm.exec) (hb : c.code = cc) {x y : Int64} {off : Int} {tgt : Nat} (hd0 : decode cc pc = .ok (.lcmp, 1)) (hdg : decode cc (pc + 1) = .ok (.ifCond .eq off, 3)) (ht : ((pc + 1 : Nat) : Int) + off = (tgt : Int))
    (kt : x = y → W p l e R s m args below meth c H locs cells slots Q (F0 m tgt ls rest)) (kf : ¬ x = y → W p l e R s m args below meth c H locs cells slots Q (F0 m (pc + 4) ls rest)) : W p l e R s m args below meth c H locs cells slots Q (F0 m pc ls (.long y :: .long x :: rest)) :=
  W.lcmp hx hb hd0 (j0_eq hx hb hdg ht (fun h => kt ((lg_cmp_eq x y).mp h)) (fun h => kf (fun g => h ((lg_cmp_eq x y).mpr g))))
theorem jL_ne (hx : p.tables.exec = Jvm.exec) (hb : c.code = cc) {x y : Int64} {off : Int} {tgt : Nat} (hd0 : decode cc pc = .ok (.lcmp, 1)) (hdg : decode cc (pc + 1) = .ok (.ifCond .ne off, 3)) (ht : ((pc + 1 : Nat) : Int) + off = (tgt : Int))
    (kt : x = y → W p l e R s m args below meth c H locs cells slots Q (F0 m (pc + 4) ls rest)) (kf : ¬ x = y → W p l e R s m args below meth c H locs cells slots Q (F0 m tgt ls rest)) : W p l e R s m args below meth c H locs cells slots Q (F0 m pc ls (.long y :: .long x :: rest)) :=
  W.lcmp hx hb hd0 (j0_ne hx hb hdg ht (fun h => kt ((lg_cmp_eq x y).mp h)) (fun h => kf (fun g => h ((lg_cmp_eq x y).mpr g))))
/-! a value on top by another name -/
theorem w_eqi {x y : Int32} (h : x = y) (k : W p l e R s m args below meth c H locs cells slots Q (F0 m pc ls (.int y :: rest))) : W p l e R s m args below meth c H locs cells slots Q (F0 m pc ls (.int x :: rest)) := by rw [h]; exact k
theorem w_eql {x y : Int64} (h : x = y) (k : W p l e R s m args below meth c H locs cells slots Q (F0 m pc ls (.long y :: rest))) : W p l e R s m args below meth c H locs cells slots Q (F0 m pc ls (.long x :: rest)) := by rw [h]; exact k
/-! fields and arrays of a layout's world -/
theorem w_get (hx : p.tables.exec = Jvm.exec) (hb : c.code = cc) (hts : ∀ w ∈ AG, w.before args s = true) (hK : va_K (dC, dI) vwCl (tys4 cA) s) (hP : va_P (dC, dI) vwCl (wld N lay cA ad M) H) {own ref C : String} {T : u_T} {NF ci n index : Nat} {fds : List (Nat × Nat)} (hown : s.vm.findClass own = some m.cls)
    {k : Nat} (hk : k < N) (hl : lay k = (0, ci, n, fds)) (hc : vwCl[ci]? = some (C, T, NF)) (hin : ∀ w ∈ u_ws C T NF, w ∈ AG) (f : Nat) (hf : f < NF) (hlink : Cond.fieldLink own index ref (T f).2.1 (T f).2.2.1 ∈ AG) (href : (T f).1 = ref) {d : Nat × Nat} (hd : fds[f]? = some d) {v : Value} (hv : fvl ad M d = v)
    (hdg : decode cc pc = .ok (.getfield index, 3)) (kk : W p l e R s m args below meth c H locs cells slots Q (F0 m (pc + 3) ls (v :: rest))) : W p l e R s m args below meth c H locs cells slots Q (F0 m pc ls (.ref (ad k) :: rest)) := by
  subst href
  have he : (wld N lay cA ad M)[k]? = some (ad k, .inr (ci, fds.map (fvl ad M))) := by rw [wld_at hk, cel_obj hl]
  exact va_get (D := (dC, dI)) (ci := ci) (v := v) (C := C) (T := T) (N := NF) hx hb hts hin hown hK hP k he hc f hf (hts _ hlink) (fun _ h9 => h9) (by rw [List.getElem?_map, hd]; simp [hv]) hdg kk
theorem w_putI (hx : p.tables.exec = Jvm.exec) (hb : c.code = cc) (hts : ∀ w ∈ AG, w.before args s = true) (hK : va_K (dC, dI) vwCl (tys4 cA) s) (hP : va_P (dC, dI) vwCl (wld N lay cA ad M) H) (hI : Inj N ad) (hS : va_S A H0 H locs) (hA : ∀ q, adS N ad q → A q) {own ref C : String} {T : u_T} {NF ci n index : Nat} {fds : List (Nat × Nat)} (hown : s.vm.findClass own = some m.cls)
    (ty0 : Nat → FieldType) (hty : ∀ k, k < NF → parseFieldDescriptor (T k).2.2.1 = some (ty0 k)) (hnm : ∀ a, a < NF → ∀ b, b < NF → a ≠ b → (T a).2.1 ≠ (T b).2.1)
    {k : Nat} (hk : k < N) (hl : lay k = (0, ci, n, fds)) (hc : vwCl[ci]? = some (C, T, NF)) (hin : ∀ w ∈ u_ws C T NF, w ∈ AG) (f : Nat) (hf : f < NF) (hlink : Cond.fieldLink own index ref (T f).2.1 (T f).2.2.1 ∈ AG) (href : (T f).1 = ref) (hfin : (T f).2.2.2 = false) (hI32 : parseFieldDescriptor (T f).2.2.1 = some .int) {i : Nat} (hd : fds[f]? = some (1, i)) (hu : uF N lay k f (1, i) = true) {v : Int32}
    (hdg : decode cc pc = .ok (.putfield index, 3)) (kk : ∀ (H1 : Heap) (locs1 : List Loc), va_P (dC, dI) vwCl (wld N lay cA ad (sI M i v)) H1 → va_S A H0 H1 locs1 → W p l e R s m args below meth c H1 locs1 cells slots Q (F0 m (pc + 3) ls rest)) : W p l e R s m args below meth c H locs cells slots Q (F0 m pc ls (.int v :: .ref (ad k) :: rest)) := by
  subst href
  have he : (wld N lay cA ad M)[k]? = some (ad k, .inr (ci, fds.map (fvl ad M))) := by rw [wld_at hk, cel_obj hl]
  refine va_put (D := (dC, dI)) (ci := ci) (v := .int v) (ty := .int) (C := C) (T := T) (N := NF) hx hb hts hin ty0 hty hnm hown hK hP (wld_D hI hA) hS k he hc f hf (hts _ hlink) (fun _ h9 => h9) hfin hI32 rfl rfl (by rw [List.length_map]; exact (List.getElem?_eq_some_iff.mp hd).1) hdg (fun H1 locs1 hP1 _ hS1 => kk H1 locs1 ?_ hS1)
  rw [set_sI hk hl hd hu] at hP1
  exact hP1
theorem w_putL (hx : p.tables.exec = Jvm.exec) (hb : c.code = cc) (hts : ∀ w ∈ AG, w.before args s = true) (hK : va_K (dC, dI) vwCl (tys4 cA) s) (hP : va_P (dC, dI) vwCl (wld N lay cA ad M) H) (hI : Inj N ad) (hS : va_S A H0 H locs) (hA : ∀ q, adS N ad q → A q) (hok : lOk N lay = true) {own ref C : String} {T : u_T} {NF ci n index : Nat} {fds : List (Nat × Nat)} (hown : s.vm.findClass own = some m.cls)
    (ty0 : Nat → FieldType) (hty : ∀ k, k < NF → parseFieldDescriptor (T k).2.2.1 = some (ty0 k)) (hnm : ∀ a, a < NF → ∀ b, b < NF → a ≠ b → (T a).2.1 ≠ (T b).2.1)
    {k : Nat} (hk : k < N) (hl : lay k = (0, ci, n, fds)) (hc : vwCl[ci]? = some (C, T, NF)) (hin : ∀ w ∈ u_ws C T NF, w ∈ AG) (f : Nat) (hf : f < NF) (hlink : Cond.fieldLink own index ref (T f).2.1 (T f).2.2.1 ∈ AG) (href : (T f).1 = ref) (hfin : (T f).2.2.2 = false) (hI32 : parseFieldDescriptor (T f).2.2.1 = some .long) {i : Nat} (hd : fds[f]? = some (2, i)) (hu : uF N lay k f (2, i) = true) {v : Int64}
    (hdg : decode cc pc = .ok (.putfield index, 3)) (kk : ∀ (H1 : Heap) (locs1 : List Loc), va_P (dC, dI) vwCl (wld N lay cA ad (sL M i v)) H1 → va_S A H0 H1 locs1 → W p l e R s m args below meth c H1 locs1 cells slots Q (F0 m (pc + 3) ls rest)) : W p l e R s m args below meth c H locs cells slots Q (F0 m pc ls (.long v :: .ref (ad k) :: rest)) := by
  subst href
  have he : (wld N lay cA ad M)[k]? = some (ad k, .inr (ci, fds.map (fvl ad M))) := by rw [wld_at hk, cel_obj hl]
  refine va_put (D := (dC, dI)) (ci := ci) (v := .long v) (ty := .long) (C := C) (T := T) (N := NF) hx hb hts hin ty0 hty hnm hown hK hP (wld_D hI hA) hS k he hc f hf (hts _ hlink) (fun _ h9 => h9) hfin hI32 rfl rfl (by rw [List.length_map]; exact (List.getElem?_eq_some_iff.mp hd).1) hdg (fun H1 locs1 hP1 _ hS1 => kk H1 locs1 ?_ hS1)
  rw [set_sL hk hl hd hu hok] at hP1
  exact hP1
theorem w_lald (hx : p.tables.exec = Jvm.exec) (hb : c.code = cc) (hK : va_K (dC, dI) vwCl (tys4 cA) s) (hP : va_P (dC, dI) vwCl (wld N lay cA ad M) H) {k a n : Nat} {fds : List (Nat × Nat)} (hk : k < N) (hl : lay k = (2, a, n, fds)) {i : Int32} (hin : vp_in i n) (hdg : decode cc pc = .ok (.laload, 1))
    (kk : W p l e R s m args below meth c H locs cells slots Q (F0 m (pc + 1) ls (.long (gJ M a i.toNatClampNeg) :: rest))) : W p l e R s m args below meth c H locs cells slots Q (F0 m pc ls (.int i :: .ref (ad k) :: rest)) :=
  va_lald (D := (dC, dI)) hx hb hK hP k 1 (f := gJ M a) (n := n) (cA := cA 1) (by rw [wld_at hk, hl]; rfl) rfl hin hdg kk
theorem w_last (hx : p.tables.exec = Jvm.exec) (hb : c.code = cc) (hK : va_K (dC, dI) vwCl (tys4 cA) s) (hP : va_P (dC, dI) vwCl (wld N lay cA ad M) H) (hI : Inj N ad) (hS : va_S A H0 H locs) (hA : ∀ q, adS N ad q → A q) {k a n : Nat} {fds : List (Nat × Nat)} (hk : k < N) (hl : lay k = (2, a, n, fds)) (hu : uA N lay k (fun x => x == 2) a = true) {i : Int32} {x : Int64} (hin : vp_in i n) (hdg : decode cc pc = .ok (.lastore, 1))
    (kk : ∀ (H1 : Heap) (locs1 : List Loc), va_P (dC, dI) vwCl (wld N lay cA ad (sJ M a (vp_updL (gJ M a) i.toNatClampNeg x))) H1 → va_S A H0 H1 locs1 → W p l e R s m args below meth c H1 locs1 cells slots Q (F0 m (pc + 1) ls rest)) : W p l e R s m args below meth c H locs cells slots Q (F0 m pc ls (.long x :: .int i :: .ref (ad k) :: rest)) := by
  refine va_last (D := (dC, dI)) hx hb hK hP (wld_D hI hA) hS k 1 (f := gJ M a) (n := n) (cA := cA 1) (by rw [wld_at hk, hl]; rfl) rfl hin hdg (fun H1 locs1 hP1 _ hS1 => kk H1 locs1 ?_ hS1)
  rw [set_sJ hl hu] at hP1
  exact hP1
theorem w_iald (hx : p.tables.exec = Jvm.exec) (hb : c.code = cc) (hK : va_K (dC, dI) vwCl (tys4 cA) s) (hP : va_P (dC, dI) vwCl (wld N lay cA ad M) H) {k a n : Nat} {fds : List (Nat × Nat)} (hk : k < N) (hl : lay k = (1, a, n, fds)) {i : Int32} (hin : vp_in i n) (hdg : decode cc pc = .ok (.iaload, 1))
    (kk : W p l e R s m args below meth c H locs cells slots Q (F0 m (pc + 1) ls (.int (gB M a i.toNatClampNeg) :: rest))) : W p l e R s m args below meth c H locs cells slots Q (F0 m pc ls (.int i :: .ref (ad k) :: rest)) :=
  va_iald (D := (dC, dI)) hx hb hK hP k 0 (f := gB M a) (n := n) (cA := cA 0) (by rw [wld_at hk, hl]; rfl) rfl hin hdg kk
theorem w_iast (hx : p.tables.exec = Jvm.exec) (hb : c.code = cc) (hK : va_K (dC, dI) vwCl (tys4 cA) s) (hP : va_P (dC, dI) vwCl (wld N lay cA ad M) H) (hI : Inj N ad) (hS : va_S A H0 H locs) (hA : ∀ q, adS N ad q → A q) {k a n : Nat} {fds : List (Nat × Nat)} (hk : k < N) (hl : lay k = (1, a, n, fds)) (hu : uA N lay k (fun x => x == 1 || x == 3) a = true) {i : Int32} {x : Int32} (hin : vp_in i n) (hdg : decode cc pc = .ok (.iastore, 1))
    (kk : ∀ (H1 : Heap) (locs1 : List Loc), va_P (dC, dI) vwCl (wld N lay cA ad (sB M a (upd (gB M a) i.toNatClampNeg x))) H1 → va_S A H0 H1 locs1 → W p l e R s m args below meth c H1 locs1 cells slots Q (F0 m (pc + 1) ls rest)) : W p l e R s m args below meth c H locs cells slots Q (F0 m pc ls (.int x :: .int i :: .ref (ad k) :: rest)) := by
  refine va_iast (D := (dC, dI)) hx hb hK hP (wld_D hI hA) hS k 0 (f := gB M a) (n := n) (cA := cA 0) (by rw [wld_at hk, hl]; rfl) rfl hin hdg (fun H1 locs1 hP1 _ hS1 => kk H1 locs1 ?_ hS1)
  have h9 := set_sB (cA := cA) (ad := ad) (M := M) (g := upd (gB M a) i.toNatClampNeg x) hl (Or.inl rfl) hu
  rw [if_pos rfl] at h9
  rw [h9] at hP1
  exact hP1
theorem w_zald (hx : p.tables.exec = Jvm.exec) (hb : c.code = cc) (hK : va_K (dC, dI) vwCl (tys4 cA) s) (hP : va_P (dC, dI) vwCl (wld N lay cA ad M) H) {k a n : Nat} {fds : List (Nat × Nat)} (hk : k < N) (hl : lay k = (3, a, n, fds)) {i : Int32} (hin : vp_in i n) (hdg : decode cc pc = .ok (.baload, 1))
    (kk : W p l e R s m args below meth c H locs cells slots Q (F0 m (pc + 1) ls (.int (gB M a i.toNatClampNeg) :: rest))) : W p l e R s m args below meth c H locs cells slots Q (F0 m pc ls (.int i :: .ref (ad k) :: rest)) :=
  va_zald (D := (dC, dI)) hx hb hK hP k 2 (f := gB M a) (n := n) (cA := cA 2) (by rw [wld_at hk, hl]; rfl) rfl hin hdg kk
theorem w_zast (hx : p.tables.exec = Jvm.exec) (hb : c.code = cc) (hK : va_K (dC, dI) vwCl (tys4 cA) s) (hP : va_P (dC, dI) vwCl (wld N lay cA ad M) H) (hI : Inj N ad) (hS : va_S A H0 H locs) (hA : ∀ q, adS N ad q → A q) {k a n : Nat} {fds : List (Nat × Nat)} (hk : k < N) (hl : lay k = (3, a, n, fds)) (hu : uA N lay k (fun x => x == 1 || x == 3) a = true) {i : Int32} {x : Int32} (hb01 : vp_nar .boolean x = x) (hin : vp_in i n) (hdg : decode cc pc = .ok (.bastore, 1))
    (kk : ∀ (H1 : Heap) (locs1 : List Loc), va_P (dC, dI) vwCl (wld N lay cA ad (sB M a (upd (gB M a) i.toNatClampNeg x))) H1 → va_S A H0 H1 locs1 → W p l e R s m args below meth c H1 locs1 cells slots Q (F0 m (pc + 1) ls rest)) : W p l e R s m args below meth c H locs cells slots Q (F0 m pc ls (.int x :: .int i :: .ref (ad k) :: rest)) := by
  refine va_zast (D := (dC, dI)) hx hb hK hP (wld_D hI hA) hS k 2 (f := gB M a) (n := n) (cA := cA 2) (by rw [wld_at hk, hl]; rfl) rfl hin hdg (fun H1 locs1 hP1 _ hS1 => kk H1 locs1 ?_ hS1)
  have h9 := set_sB (cA := cA) (ad := ad) (M := M) (g := upd (gB M a) i.toNatClampNeg x) hl (Or.inr rfl) hu
  rw [if_neg (by decide)] at h9
  rw [hb01, h9] at hP1
  exact hP1
theorem w_alen (hx : p.tables.exec = Jvm.exec) (hb : c.code = cc) (hK : va_K (dC, dI) vwCl (tys4 cA) s) (hP : va_P (dC, dI) vwCl (wld N lay cA ad M) H) {k kd a n : Nat} {fds : List (Nat × Nat)} (hk : k < N) (hl : lay k = (kd, a, n, fds)) (hkd : kd = 2 ∨ kd = 4) {v : Int32} (hv : Int32.ofNat n = v) (hdg : decode cc pc = .ok (.arraylength, 1))
    (kk : W p l e R s m args below meth c H locs cells slots Q (F0 m (pc + 1) ls (.int v :: rest))) : W p l e R s m args below meth c H locs cells slots Q (F0 m pc ls (.ref (ad k) :: rest)) := by
  rcases hkd with rfl | rfl
  · exact va_alen (D := (dC, dI)) hx hb hK hP k 1 (x := (n, .inr (.inl (gJ M a)))) (cA := cA 1) (by rw [wld_at hk, hl]; rfl) (ty := .long) rfl hv hdg kk
  · exact va_alen (D := (dC, dI)) hx hb hK hP k 3 (x := (n, .inr (.inr (.inr (.inr (fun j => some (ad (a + j)))))))) (cA := cA 3) (by rw [wld_at hk, hl]; rfl) (ty := .object "Clockhouse$Server") rfl hv hdg kk
theorem w_ald (hx : p.tables.exec = Jvm.exec) (hb : c.code = cc) (hK : va_K (dC, dI) vwCl (tys4 cA) s) (hP : va_P (dC, dI) vwCl (wld N lay cA ad M) H) {k a n : Nat} {fds : List (Nat × Nat)} (hk : k < N) (hl : lay k = (4, a, n, fds)) {i : Int32} (hin : vp_in i n) (hdg : decode cc pc = .ok (.aaload, 1))
    (kk : W p l e R s m args below meth c H locs cells slots Q (F0 m (pc + 1) ls (.ref (ad (a + i.toNatClampNeg)) :: rest))) : W p l e R s m args below meth c H locs cells slots Q (F0 m pc ls (.int i :: .ref (ad k) :: rest)) :=
  va_aldq (D := (dC, dI)) hx hb hK hP k 3 (f := fun j => some (ad (a + j))) (n := n) (C := "Clockhouse$Server") (cA := cA 3) (by rw [wld_at hk, hl]; rfl) rfl hin hdg kk
theorem w_recv {ci n : Nat} {q : vw_C} {fds : List (Nat × Nat)} (hK : va_K (dC, dI) vwCl (tys4 cA) s) (hP : va_P (dC, dI) vwCl (wld N lay cA ad M) H) {k : Nat} (hk : k < N) (hl : lay k = (0, ci, n, fds)) (hc : vwCl[ci]? = some q) : ∃ cell : Cell, H[ad k]? = some cell ∧ cell.vm.isStatics = false ∧ s.vm.findClass q.1 = some cell.cls :=
  va_recv hK hP hc (q0 := k) (fs := fds.map (fvl ad M)) (by rw [wld_at hk, cel_obj hl])
end ROWS
end
section
section CALLS
variable {p : Program} {l : Launch} {e : Env} {R : Room} {s : State} {m : MethodId} {args : Array Value} {below : List Frame} {meth : Method} {c : Code} {H : Heap} {locs : List Loc} {cells slots : Nat} {Q : State → Prop}
variable {cc bytes : ByteArray} {pc nL maxL nn index : Nat} {ls : Array Slot} {rest As st0 : List Value} {N : Nat} {lay : Nat → Dsc} {dC : Nat → ClassId} {dI : Nat → Nat → Nat} {cA : Nat → ClassId} {ad : Nat → Nat} {M : Mem} {A : Nat → Prop} {H0 : Heap} {own C : String} {y : MethodName} {ret : Option FieldType} {rm : Room} {b : Addr}
theorem good_c (hcode : Cond.code y bytes maxL ret ∈ AG) : GoodIn AG (Cond.code y bytes maxL ret :: AG) := fun w h => (List.mem_cons.mp h).elim (fun e => by rw [e]; exact AG_good _ hcode) (fun h => AG_good w h)
theorem mkB (hts : ∀ w ∈ AG, w.before args s = true) (hcode : Cond.code y bytes maxL ret ∈ AG) (hini : Cond.initialized y.cls ∈ AG) (hl : Cond.methodLink own index y ∈ AG)
    (hd : y.cls ≠ "java/lang/invoke/MethodHandle" ∧ y.cls ≠ "java/lang/invoke/VarHandle" ∧ (parseMethodDescriptor y.desc).map (fun d => d.parameters.length) = some nn) (hrc : rm.cells = 0) (hrs : rm.slots = 0) (hR : rm.frames + 1 ≤ R.frames ∧ 8 + (maxL + 11) + rm.locals ≤ R.locals) :
    CallB R s args own index y bytes maxL ret (Cond.code y bytes maxL ret :: AG) rm 0 0 nn :=
  callB_of nn hts (good_c hcode) rfl hrc hrs (hts _ hini) (hts _ hl) hd hR
theorem mkV (hts : ∀ w ∈ AG, w.before args s = true) (hcode : Cond.code y bytes maxL ret ∈ AG) (hini : Cond.initialized y.cls ∈ AG) (hl : Cond.methodLink own index y ∈ AG) (hinst : Cond.instanceMethod y ∈ AG) (hsel : Cond.selects C y y ∈ AG)
    (hd : y.cls ≠ "java/lang/invoke/MethodHandle" ∧ y.cls ≠ "java/lang/invoke/VarHandle" ∧ (parseMethodDescriptor y.desc).map (fun d => d.parameters.length) = some nn) (hrc : rm.cells = 0) (hrs : rm.slots = 0) (hR : rm.frames + 1 ≤ R.frames ∧ 8 + (maxL + 11) + rm.locals ≤ R.locals) :
    CallW R s args own C index y bytes maxL ret (Cond.code y bytes maxL ret :: AG) rm 0 0 nn :=
  ⟨mkB hts hcode hini hl hd hrc hrs hR, hts _ hinst, hts _ hsel⟩
theorem mkS (hts : ∀ w ∈ AG, w.before args s = true) (hcode : Cond.code y bytes maxL ret ∈ AG) (hini : Cond.initialized y.cls ∈ AG) (hl : Cond.methodLink own index y ∈ AG) (hst : Cond.static y ∈ AG)
    (hd : y.cls ≠ "java/lang/invoke/MethodHandle" ∧ y.cls ≠ "java/lang/invoke/VarHandle" ∧ (parseMethodDescriptor y.desc).map (fun d => d.parameters.length) = some nn) (hrc : rm.cells = 0) (hrs : rm.slots = 0) (hR : rm.frames + 1 ≤ R.frames ∧ 8 + (maxL + 11) + rm.locals ≤ R.locals) :
    CallB R s args own index y bytes maxL ret (Cond.code y bytes maxL ret :: AG) rm 0 0 nn ∧ (Cond.static y).before args s = true :=
  ⟨mkB hts hcode hini hl hd hrc hrs hR, hts _ hst⟩

theorem kVi (hx : p.tables.exec = Jvm.exec) (hb : c.code = cc) (hml : c.maxLocals = nL) (hown : s.vm.findClass own = some m.cls) (hts : ∀ w ∈ AG, w.before args s = true) (hK : va_K (dC, dI) vwCl (tys4 cA) s) (hP : va_P (dC, dI) vwCl (wld N lay cA ad M) H) (hS : va_S A H0 H locs) (hA : ∀ q, adS N ad q → A q) {post : Int32 → Mem → Prop}
    (hM : Met l y (Cond.code y bytes maxL ret :: AG) rm (va_Pc (.ref b :: As) (PCw N lay dC dI cA ad M)) (va_Qi post (PCw N lay dC dI cA ad) (adS N ad)) 0 0 (adS N ad))
    (cw : CallW R s args own C index y bytes maxL ret (Cond.code y bytes maxL ret :: AG) rm 0 0 nn) (hr : ∃ cell : Cell, H[b]? = some cell ∧ cell.vm.isStatics = false ∧ s.vm.findClass C = some cell.cls)
    (hn : As.length = nn) (hsz : ls.size = nL) (hst : st0 = As.reverse ++ .ref b :: rest) (hrm : (rest.map fun v => v.category).sum ≤ 8) (hdg : decode cc pc = .ok (.invokevirtual index, 3)) (hf : cells ≤ R.cells ∧ slots ≤ R.slots)
    (kk : ∀ (r : Int32) (u : Mem) (H1 : Heap) (locs1 : List Loc), post r u → va_P (dC, dI) vwCl (wld N lay cA ad u) H1 → va_S A H0 H1 locs1 → H.size ≤ H1.size → (∀ q : Nat, q < H.size → ¬ adS N ad q → H1[q]? = H[q]?) → W p l e R s m args below meth c H1 locs1 cells slots Q (F0 m (pc + 3) ls (.int r :: rest))) : W p l e R s m args below meth c H locs cells slots Q (F0 m pc ls st0) := by
  refine va_calli (va_runV (As := As) (rest := rest) ⟨hx, hb, hml, hown, hts⟩ hM cw ⟨PCw_blind, hr, fun U hU hW => ⟨rfl, by rw [hU]; exact hP, va_K.moved hW.alike hK⟩⟩ rfl hn hsz hst (lv_room hrm) hdg hf) hS (fun q _ h => hA q h) hA (fun r u t H1 locs1 ht hvm hw hB hz hk hS1 => ?_)
  subst ht
  exact kk r u t.heap locs1 hw hB.1 hS1 hz hk
theorem kVl (hx : p.tables.exec = Jvm.exec) (hb : c.code = cc) (hml : c.maxLocals = nL) (hown : s.vm.findClass own = some m.cls) (hts : ∀ w ∈ AG, w.before args s = true) (hK : va_K (dC, dI) vwCl (tys4 cA) s) (hP : va_P (dC, dI) vwCl (wld N lay cA ad M) H) (hS : va_S A H0 H locs) (hA : ∀ q, adS N ad q → A q) {post : Int64 → Mem → Prop}
    (hM : Met l y (Cond.code y bytes maxL ret :: AG) rm (va_Pc (.ref b :: As) (PCw N lay dC dI cA ad M)) (va_Ql post (PCw N lay dC dI cA ad) (adS N ad)) 0 0 (adS N ad))
    (cw : CallW R s args own C index y bytes maxL ret (Cond.code y bytes maxL ret :: AG) rm 0 0 nn) (hr : ∃ cell : Cell, H[b]? = some cell ∧ cell.vm.isStatics = false ∧ s.vm.findClass C = some cell.cls)
    (hn : As.length = nn) (hsz : ls.size = nL) (hst : st0 = As.reverse ++ .ref b :: rest) (hrm : (rest.map fun v => v.category).sum ≤ 8) (hdg : decode cc pc = .ok (.invokevirtual index, 3)) (hf : cells ≤ R.cells ∧ slots ≤ R.slots)
    (kk : ∀ (r : Int64) (u : Mem) (H1 : Heap) (locs1 : List Loc), post r u → va_P (dC, dI) vwCl (wld N lay cA ad u) H1 → va_S A H0 H1 locs1 → H.size ≤ H1.size → (∀ q : Nat, q < H.size → ¬ adS N ad q → H1[q]? = H[q]?) → W p l e R s m args below meth c H1 locs1 cells slots Q (F0 m (pc + 3) ls (.long r :: rest))) : W p l e R s m args below meth c H locs cells slots Q (F0 m pc ls st0) := by
  refine va_calll (va_runV (As := As) (rest := rest) ⟨hx, hb, hml, hown, hts⟩ hM cw ⟨PCw_blind, hr, fun U hU hW => ⟨rfl, by rw [hU]; exact hP, va_K.moved hW.alike hK⟩⟩ rfl hn hsz hst (lv_room hrm) hdg hf) hS (fun q _ h => hA q h) hA (fun r u t H1 locs1 ht hvm hw hB hz hk hS1 => ?_)
  subst ht
  exact kk r u t.heap locs1 hw hB.1 hS1 hz hk
theorem kVv (hx : p.tables.exec = Jvm.exec) (hb : c.code = cc) (hml : c.maxLocals = nL) (hown : s.vm.findClass own = some m.cls) (hts : ∀ w ∈ AG, w.before args s = true) (hK : va_K (dC, dI) vwCl (tys4 cA) s) (hP : va_P (dC, dI) vwCl (wld N lay cA ad M) H) (hS : va_S A H0 H locs) (hA : ∀ q, adS N ad q → A q) {post : Mem → Prop}
    (hM : Met l y (Cond.code y bytes maxL ret :: AG) rm (va_Pc (.ref b :: As) (PCw N lay dC dI cA ad M)) (va_Qv post (PCw N lay dC dI cA ad) (adS N ad)) 0 0 (adS N ad))
    (cw : CallW R s args own C index y bytes maxL ret (Cond.code y bytes maxL ret :: AG) rm 0 0 nn) (hr : ∃ cell : Cell, H[b]? = some cell ∧ cell.vm.isStatics = false ∧ s.vm.findClass C = some cell.cls)
    (hn : As.length = nn) (hsz : ls.size = nL) (hst : st0 = As.reverse ++ .ref b :: rest) (hrm : (rest.map fun v => v.category).sum ≤ 8) (hdg : decode cc pc = .ok (.invokevirtual index, 3)) (hf : cells ≤ R.cells ∧ slots ≤ R.slots)
    (kk : ∀ (u : Mem) (H1 : Heap) (locs1 : List Loc), post u → va_P (dC, dI) vwCl (wld N lay cA ad u) H1 → va_S A H0 H1 locs1 → H.size ≤ H1.size → (∀ q : Nat, q < H.size → ¬ adS N ad q → H1[q]? = H[q]?) → W p l e R s m args below meth c H1 locs1 cells slots Q (F0 m (pc + 3) ls rest)) : W p l e R s m args below meth c H locs cells slots Q (F0 m pc ls st0) := by
  refine va_callv (va_runV (As := As) (rest := rest) ⟨hx, hb, hml, hown, hts⟩ hM cw ⟨PCw_blind, hr, fun U hU hW => ⟨rfl, by rw [hU]; exact hP, va_K.moved hW.alike hK⟩⟩ rfl hn hsz hst (lv_room hrm) hdg hf) hS (fun q _ h => hA q h) hA (fun u t H1 locs1 ht hvm hw hB hz hk hS1 => ?_)
  subst ht
  exact kk u t.heap locs1 hw hB.1 hS1 hz hk
theorem kVq (hx : p.tables.exec = Jvm.exec) (hb : c.code = cc) (hml : c.maxLocals = nL) (hown : s.vm.findClass own = some m.cls) (hts : ∀ w ∈ AG, w.before args s = true) (hK : va_K (dC, dI) vwCl (tys4 cA) s) (hP : va_P (dC, dI) vwCl (wld N lay cA ad M) H) (hS : va_S A H0 H locs) (hA : ∀ q, adS N ad q → A q) {post : Option Nat → Mem → Prop}
    (hM : Met l y (Cond.code y bytes maxL ret :: AG) rm (va_Pc (.ref b :: As) (PCw N lay dC dI cA ad M)) (va_Qq post (PCw N lay dC dI cA ad) (adS N ad)) 0 0 (adS N ad))
    (cw : CallW R s args own C index y bytes maxL ret (Cond.code y bytes maxL ret :: AG) rm 0 0 nn) (hr : ∃ cell : Cell, H[b]? = some cell ∧ cell.vm.isStatics = false ∧ s.vm.findClass C = some cell.cls)
    (hn : As.length = nn) (hsz : ls.size = nL) (hst : st0 = As.reverse ++ .ref b :: rest) (hrm : (rest.map fun v => v.category).sum ≤ 8) (hdg : decode cc pc = .ok (.invokevirtual index, 3)) (hf : cells ≤ R.cells ∧ slots ≤ R.slots)
    (kk : ∀ (r : Option Nat) (u : Mem) (H1 : Heap) (locs1 : List Loc), post r u → va_P (dC, dI) vwCl (wld N lay cA ad u) H1 → va_S A H0 H1 locs1 → H.size ≤ H1.size → (∀ q : Nat, q < H.size → ¬ adS N ad q → H1[q]? = H[q]?) → W p l e R s m args below meth c H1 locs1 cells slots Q (F0 m (pc + 3) ls (va_rf r :: rest))) : W p l e R s m args below meth c H locs cells slots Q (F0 m pc ls st0) := by
  refine va_callq (va_runV (As := As) (rest := rest) ⟨hx, hb, hml, hown, hts⟩ hM cw ⟨PCw_blind, hr, fun U hU hW => ⟨rfl, by rw [hU]; exact hP, va_K.moved hW.alike hK⟩⟩ rfl hn hsz hst (lv_room hrm) hdg hf) hS (fun q _ h => hA q h) hA (fun r u t H1 locs1 ht hvm hw hB hz hk hS1 => ?_)
  subst ht
  exact kk r u t.heap locs1 hw hB.1 hS1 hz hk
theorem kSi (hx : p.tables.exec = Jvm.exec) (hb : c.code = cc) (hml : c.maxLocals = nL) (hown : s.vm.findClass own = some m.cls) (hts : ∀ w ∈ AG, w.before args s = true) {z : Int32}
    (hM : Met l y (Cond.code y bytes maxL ret :: AG) rm (fun v _ => v = As.toArray) (vp_Si (fun r => r = z)) 0 0 (fun _ => False))
    (cw : CallB R s args own index y bytes maxL ret (Cond.code y bytes maxL ret :: AG) rm 0 0 nn ∧ (Cond.static y).before args s = true)
    (hn : As.length = nn) (hsz : ls.size = nL) (hst : st0 = As.reverse ++ rest) (hrm : (rest.map fun v => v.category).sum ≤ 8) (hdg : decode cc pc = .ok (.invokestatic index, 3)) (hf : cells ≤ R.cells ∧ slots ≤ R.slots)
    (kk : W p l e R s m args below meth c H locs cells slots Q (F0 m (pc + 3) ls (.int z :: rest))) : W p l e R s m args below meth c H locs cells slots Q (F0 m pc ls st0) :=
  vp_callSi (W.runS (As := As) (rest := rest) ⟨hx, hb, hml, hown, hts⟩ hM cw preEq rfl hn hsz hst (lv_room hrm) hdg hf) (fun r hr => by rw [hr]; exact kk)
theorem kSl (hx : p.tables.exec = Jvm.exec) (hb : c.code = cc) (hml : c.maxLocals = nL) (hown : s.vm.findClass own = some m.cls) (hts : ∀ w ∈ AG, w.before args s = true) {z : Int64}
    (hM : Met l y (Cond.code y bytes maxL ret :: AG) rm (fun v _ => v = As.toArray) (vp_Sl (fun r => r = z)) 0 0 (fun _ => False))
    (cw : CallB R s args own index y bytes maxL ret (Cond.code y bytes maxL ret :: AG) rm 0 0 nn ∧ (Cond.static y).before args s = true)
    (hn : As.length = nn) (hsz : ls.size = nL) (hst : st0 = As.reverse ++ rest) (hrm : (rest.map fun v => v.category).sum ≤ 8) (hdg : decode cc pc = .ok (.invokestatic index, 3)) (hf : cells ≤ R.cells ∧ slots ≤ R.slots)
    (kk : W p l e R s m args below meth c H locs cells slots Q (F0 m (pc + 3) ls (.long z :: rest))) : W p l e R s m args below meth c H locs cells slots Q (F0 m pc ls st0) :=
  vp_callSl (W.runS (As := As) (rest := rest) ⟨hx, hb, hml, hown, hts⟩ hM cw preEq rfl hn hsz hst (lv_room hrm) hdg hf) (fun r hr => by rw [hr]; exact kk)
end CALLS
theorem sMet {l : Launch} {y : MethodName} {b : ByteArray} {n : Nat} {ret : Option FieldType} {rm : Room} {av : List Value} {Qc : Array Value → State → Outcome → State → Prop}
    (hy : plainName y.cls = true) (hn : (lg_sl av).length ≤ n)
    (body : ∀ (p : Program) (e : Env) (s : State) (m : MethodId) (below : List Frame) (meth : Method) (c : Code) (ls : Array Slot), p.tables.exec = Jvm.exec → c.code = b → meth.sig.returnType = ret → c.maxLocals = n → meth.locks = false → s.vm.findClass y.cls = some m.cls → (∀ w ∈ AG, w.before av.toArray s = true) → lv_has ls n (lv_args 0 av) →
      W p l e rm s m av.toArray below meth c s.heap [] 0 0 (MQ below Qc av.toArray s 0 0 (fun _ => False)) (F0 m 0 ls [])) :
    Met l y (.code y b n ret :: AG) rm (fun v _ => v = av.toArray) Qc 0 0 (fun _ => False) := by
  refine Met.ofW (cc := b) (maxL := n) (ret := ret) hy rfl ?_
  intro p e s m args below meth c s₁ B hml hv
  subst hv
  have hts := atoms_spec (ws := Cond.code y b n ret :: AG) B.pre
  rw [lg_entry_eq]
  exact body p e s m below meth c _ B.exec B.bytes B.returns hml B.notSynchronized (findClass_of_methodNamed B.named) (fun w h => hts w (List.mem_cons_of_mem _ h)) (lv_entry av hn)
end
