def Q0_0 : List Cond := [Cond.selects RX5 yX5_begin yX5_begin, Cond.selects "java/lang/Throwable" ⟨"java/lang/Throwable", "fillInStackTrace", "(I)Ljava/lang/Throwable;"⟩ ⟨"java/lang/Throwable", "fillInStackTrace", "(I)Ljava/lang/Throwable;"⟩, Cond.selects RX5 yX5_isBeyondLastTrueTime yX5_isBeyondLastTrueTime, Cond.selects RX5 yX5_elapse yX5_elapse, Cond.selects RX5 yX5_roomOrNull yX5_roomOrNull, Cond.selects RX5 yX5_knownServer yX5_knownServer, Cond.selects RX5 yX5_serverOrNull yX5_serverOrNull, Cond.selects RX5 yX5_takeSample yX5_takeSample, Cond.selects RX4 yX4_leastDelay yX4_leastDelay, Cond.selects RX5 yX5_heardServer yX5_heardServer, Cond.selects RX5 yX5_select yX5_select, Cond.selects RX3 yX3_tryLowEnd yX3_tryLowEnd, Cond.selects RX3 yX3_intervalsWith yX3_intervalsWith, Cond.selects RX3 yX3_leastUpperEnd yX3_leastUpperEnd, Cond.selects RX3 yX3_widestSpread yX3_widestSpread, Cond.selects RX3 yX3_spread yX3_spread]
def Q0_1 : List Cond := [Cond.selects RX3 yX3_leastJitter yX3_leastJitter, Cond.selects RX3 yX3_weight yX3_weight, Cond.selects RX5 yX5_correctRate yX5_correctRate, Cond.selects RX5 yX5_correctTime yX5_correctTime, Cond.selects RX5 yX5_takeStratumOfPeer yX5_takeStratumOfPeer, Cond.selects RX3 yX3_isBetter yX3_isBetter, Cond.selects RX5 yX5_forgetSamples yX5_forgetSamples, Cond.selects RX5 yX5_selectFromSome yX5_selectFromSome]
set_option maxRecDepth 100000 in
theorem Qe0 : k2_sels lw_privs = Q0_0 ++ (Q0_1) := rfl
theorem Q0_0i {w : Cond} (h : w ∈ Q0_0) : w ∈ lw_tbl := List.mem_append_left _ (by rw [Qe0]; exact List.mem_append_left _ h)
theorem Q0_1i {w : Cond} (h : w ∈ Q0_1) : w ∈ lw_tbl := List.mem_append_left _ (by rw [Qe0]; exact List.mem_append_right _ (h))
def Q1_0 : List Cond := [Cond.initialized RL, Cond.initialized RX5, Cond.initialized RX1, Cond.initialized RX0, Cond.initialized RX3, Cond.initialized RX2, Cond.initialized RX4, Cond.initialized "java/lang/Throwable", Cond.initialized "java/lang/Exception", Cond.initialized "java/lang/RuntimeException", Cond.initialized "java/lang/IllegalArgumentException", Cond.initialized RJ9, Cond.initialized "java/lang/IllegalStateException", Cond.initialized "java/lang/IndexOutOfBoundsException", Cond.initialized RJ6, Cond.classLink RL 8 RX5]
def Q1_1 : List Cond := [Cond.instantiable RX5 10, Cond.methodLink RL 190 yX5_init, Cond.instanceMethod yX5_init, Cond.code yX5_init cX5_init 2 none, Cond.methodLink RX5 1 objectInit, Cond.instanceMethod objectInit, Cond.code objectInit ⟨#[0xb1]⟩ 1 none, Cond.classLink RX5 7 RX1, Cond.instantiable RX1 4, Cond.methodLinkNest RX5 9 yX1_init "Clockhouse", Cond.instanceMethod yX1_init, Cond.code yX1_init cX1_init 1 none, Cond.methodLink RX1 3 objectInit, Cond.fieldLink RX1 11 "Clockhouse$Oscillator" "picos" "J", Cond.fieldLink RX1 17 "Clockhouse$Oscillator" "pendingPicos" "J", Cond.fieldLink RX1 20 "Clockhouse$Oscillator" "driftRate" "I"]
def Q1_2 : List Cond := [Cond.fieldLink RX1 24 "Clockhouse$Oscillator" "correctionRate" "I", Cond.lays "Clockhouse$Oscillator" "Clockhouse$Oscillator" "picos" "J", Cond.soleField "Clockhouse$Oscillator" "picos", Cond.lays "Clockhouse$Oscillator" "Clockhouse$Oscillator" "pendingPicos" "J", Cond.soleField "Clockhouse$Oscillator" "pendingPicos", Cond.lays "Clockhouse$Oscillator" "Clockhouse$Oscillator" "driftRate" "I", Cond.soleField "Clockhouse$Oscillator" "driftRate", Cond.lays "Clockhouse$Oscillator" "Clockhouse$Oscillator" "correctionRate" "I", Cond.soleField "Clockhouse$Oscillator" "correctionRate", Cond.superclass "Clockhouse$Oscillator" "java/lang/Object", Cond.classLink RX5 16 RX0, Cond.instantiable RX0 2, Cond.methodLinkNest RX5 18 yX0_init "Clockhouse", Cond.instanceMethod yX0_init, Cond.code yX0_init cX0_init 1 none, Cond.methodLink RX0 1 objectInit]
def Q1_3 : List Cond := [Cond.fieldLink RX0 13 "Clockhouse$LeapSeconds" "inserted" "I", Cond.fieldLink RX0 17 "Clockhouse$LeapSeconds" "deleted" "I", Cond.lays "Clockhouse$LeapSeconds" "Clockhouse$LeapSeconds" "inserted" "I", Cond.soleField "Clockhouse$LeapSeconds" "inserted", Cond.lays "Clockhouse$LeapSeconds" "Clockhouse$LeapSeconds" "deleted" "I", Cond.soleField "Clockhouse$LeapSeconds" "deleted", Cond.superclass "Clockhouse$LeapSeconds" "java/lang/Object", Cond.classLink RX5 23 RX4, Cond.arrayOver (.object "Clockhouse$Server"), Cond.classLink RX5 29 RX3, Cond.instantiable RX3 9, Cond.methodLinkNest RX5 31 yX3_init "Clockhouse", Cond.instanceMethod yX3_init, Cond.code yX3_init cX3_init 1 none, Cond.methodLink RX3 3 objectInit, Cond.classLink RX3 9 RX2]
def Q1_4 : List Cond := [Cond.instantiable RX2 1, Cond.methodLinkNest RX3 11 yX2_init "Clockhouse", Cond.instanceMethod yX2_init, Cond.code yX2_init cX2_init 1 none, Cond.methodLink RX2 1 objectInit, Cond.fieldLink RX2 9 "Clockhouse$Row" "cells" "[J", Cond.laysFinal "Clockhouse$Row" "Clockhouse$Row" "cells" "[J", Cond.soleField "Clockhouse$Row" "cells", Cond.superclass "Clockhouse$Row" "java/lang/Object", Cond.arrayClass .long, Cond.fieldLink RX3 12 "Clockhouse$Selection" "offsets" "LClockhouse$Row;", Cond.fieldLink RX3 18 "Clockhouse$Selection" "distances" "LClockhouse$Row;", Cond.fieldLink RX3 21 "Clockhouse$Selection" "jitters" "LClockhouse$Row;", Cond.fieldLink RX3 24 "Clockhouse$Selection" "strata" "LClockhouse$Row;", Cond.fieldLink RX3 27 "Clockhouse$Selection" "candidateSet" "I", Cond.fieldLink RX3 31 "Clockhouse$Selection" "agreeingSet" "I"]
def Q1_5 : List Cond := [Cond.fieldLink RX3 34 "Clockhouse$Selection" "survivorSet" "I", Cond.fieldLink RX3 37 "Clockhouse$Selection" "lowest" "J", Cond.fieldLink RX3 41 "Clockhouse$Selection" "highest" "J", Cond.laysFinal "Clockhouse$Selection" "Clockhouse$Selection" "offsets" "LClockhouse$Row;", Cond.soleField "Clockhouse$Selection" "offsets", Cond.laysFinal "Clockhouse$Selection" "Clockhouse$Selection" "distances" "LClockhouse$Row;", Cond.soleField "Clockhouse$Selection" "distances", Cond.laysFinal "Clockhouse$Selection" "Clockhouse$Selection" "jitters" "LClockhouse$Row;", Cond.soleField "Clockhouse$Selection" "jitters", Cond.laysFinal "Clockhouse$Selection" "Clockhouse$Selection" "strata" "LClockhouse$Row;", Cond.soleField "Clockhouse$Selection" "strata", Cond.lays "Clockhouse$Selection" "Clockhouse$Selection" "candidateSet" "I", Cond.soleField "Clockhouse$Selection" "candidateSet", Cond.lays "Clockhouse$Selection" "Clockhouse$Selection" "agreeingSet" "I", Cond.soleField "Clockhouse$Selection" "agreeingSet", Cond.lays "Clockhouse$Selection" "Clockhouse$Selection" "survivorSet" "I"]
def Q1_6 : List Cond := [Cond.soleField "Clockhouse$Selection" "survivorSet", Cond.lays "Clockhouse$Selection" "Clockhouse$Selection" "lowest" "J", Cond.soleField "Clockhouse$Selection" "lowest", Cond.lays "Clockhouse$Selection" "Clockhouse$Selection" "highest" "J", Cond.soleField "Clockhouse$Selection" "highest", Cond.superclass "Clockhouse$Selection" "java/lang/Object", Cond.instantiable RX4 9, Cond.methodLinkNest RX5 36 yX4_init "Clockhouse", Cond.instanceMethod yX4_init, Cond.code yX4_init cX4_init 1 none, Cond.methodLink RX4 3 objectInit, Cond.classLink RX4 9 RX2, Cond.methodLinkNest RX4 11 yX2_init "Clockhouse", Cond.fieldLink RX4 12 "Clockhouse$Server" "offsets" "LClockhouse$Row;", Cond.fieldLink RX4 18 "Clockhouse$Server" "delays" "LClockhouse$Row;", Cond.fieldLink RX4 21 "Clockhouse$Server" "times" "LClockhouse$Row;"]
def Q1_7 : List Cond := [Cond.fieldLink RX4 41 "Clockhouse$Server" "count" "I", Cond.fieldLink RX4 44 "Clockhouse$Server" "best" "I", Cond.fieldLink RX4 24 "Clockhouse$Server" "level" "I", Cond.fieldLink RX4 28 "Clockhouse$Server" "clockError" "I", Cond.fieldLink RX4 31 "Clockhouse$Server" "rootDelay" "J", Cond.fieldLink RX4 35 "Clockhouse$Server" "rootDispersion" "J", Cond.laysFinal "Clockhouse$Server" "Clockhouse$Server" "offsets" "LClockhouse$Row;", Cond.soleField "Clockhouse$Server" "offsets", Cond.laysFinal "Clockhouse$Server" "Clockhouse$Server" "delays" "LClockhouse$Row;", Cond.soleField "Clockhouse$Server" "delays", Cond.laysFinal "Clockhouse$Server" "Clockhouse$Server" "times" "LClockhouse$Row;", Cond.soleField "Clockhouse$Server" "times", Cond.lays "Clockhouse$Server" "Clockhouse$Server" "count" "I", Cond.soleField "Clockhouse$Server" "count", Cond.lays "Clockhouse$Server" "Clockhouse$Server" "best" "I", Cond.soleField "Clockhouse$Server" "best"]
def Q1_8 : List Cond := [Cond.lays "Clockhouse$Server" "Clockhouse$Server" "level" "I", Cond.soleField "Clockhouse$Server" "level", Cond.lays "Clockhouse$Server" "Clockhouse$Server" "clockError" "I", Cond.soleField "Clockhouse$Server" "clockError", Cond.lays "Clockhouse$Server" "Clockhouse$Server" "rootDelay" "J", Cond.soleField "Clockhouse$Server" "rootDelay", Cond.lays "Clockhouse$Server" "Clockhouse$Server" "rootDispersion" "J", Cond.soleField "Clockhouse$Server" "rootDispersion", Cond.superclass "Clockhouse$Server" "java/lang/Object", Cond.methodLink RX5 37 yX5_begin, Cond.privateMethod yX5_begin, Cond.instanceMethod yX5_begin, Cond.code yX5_begin cX5_begin 2 none, Cond.methodLink RX5 199 yX1_begin, Cond.instanceMethod yX1_begin, Cond.selects RX1 yX1_begin yX1_begin]
def Q1_9 : List Cond := [Cond.code yX1_begin cX1_begin 2 none, Cond.constantLong RX1 9 (1000000), Cond.methodLink RX5 200 yX0_clear, Cond.instanceMethod yX0_clear, Cond.selects RX0 yX0_clear yX0_clear, Cond.code yX0_clear cX0_clear 1 none, Cond.fieldLink RX5 10 "Clockhouse" "oscillator" "LClockhouse$Oscillator;", Cond.fieldLink RX5 19 "Clockhouse" "leapSeconds" "LClockhouse$LeapSeconds;", Cond.fieldLink RX5 25 "Clockhouse" "rooms" "[LClockhouse$Server;", Cond.fieldLink RX5 32 "Clockhouse" "selection" "LClockhouse$Selection;", Cond.fieldLink RX5 99 "Clockhouse" "serverCount" "I", Cond.fieldLink RX5 68 "Clockhouse" "truth" "J", Cond.fieldLink RX5 192 "Clockhouse" "clientStratum" "I", Cond.fieldLink RX5 195 "Clockhouse" "stepCount" "I", Cond.fieldLink RX5 189 "Clockhouse" "synchronizationCount" "I", Cond.fieldLink RX5 186 "Clockhouse" "readingBehindSynchronization" "J"]
def Q1_10 : List Cond := [Cond.laysFinal "Clockhouse" "Clockhouse" "oscillator" "LClockhouse$Oscillator;", Cond.soleField "Clockhouse" "oscillator", Cond.laysFinal "Clockhouse" "Clockhouse" "leapSeconds" "LClockhouse$LeapSeconds;", Cond.soleField "Clockhouse" "leapSeconds", Cond.laysFinal "Clockhouse" "Clockhouse" "rooms" "[LClockhouse$Server;", Cond.soleField "Clockhouse" "rooms", Cond.laysFinal "Clockhouse" "Clockhouse" "selection" "LClockhouse$Selection;", Cond.soleField "Clockhouse" "selection", Cond.lays "Clockhouse" "Clockhouse" "serverCount" "I", Cond.soleField "Clockhouse" "serverCount", Cond.lays "Clockhouse" "Clockhouse" "truth" "J", Cond.soleField "Clockhouse" "truth", Cond.lays "Clockhouse" "Clockhouse" "clientStratum" "I", Cond.soleField "Clockhouse" "clientStratum", Cond.lays "Clockhouse" "Clockhouse" "stepCount" "I", Cond.soleField "Clockhouse" "stepCount"]
def Q1_11 : List Cond := [Cond.lays "Clockhouse" "Clockhouse" "synchronizationCount" "I", Cond.soleField "Clockhouse" "synchronizationCount", Cond.lays "Clockhouse" "Clockhouse" "readingBehindSynchronization" "J", Cond.soleField "Clockhouse" "readingBehindSynchronization", Cond.superclass "Clockhouse" "java/lang/Object", Cond.methodLink RL 152 yX5_clock, Cond.instanceMethod yX5_clock, Cond.selects RX5 yX5_clock yX5_clock, Cond.code yX5_clock cX5_clock 1 (some .long), Cond.methodLink RX5 60 yX1_reading, Cond.instanceMethod yX1_reading, Cond.selects RX1 yX1_reading yX1_reading, Cond.code yX1_reading cX1_reading 1 (some .long), Cond.methodLink RX1 27 yJ9_floorDiv_f86c9, Cond.static yJ9_floorDiv_f86c9, Cond.code yJ9_floorDiv_f86c9 cJ9_floorDiv_f86c9 6 (some .long)]
def Q1_12 : List Cond := [Cond.methodLink RL 155 yX5_civil, Cond.instanceMethod yX5_civil, Cond.selects RX5 yX5_civil yX5_civil, Cond.code yX5_civil cX5_civil 1 (some .long), Cond.methodLink RX5 91 yX0_civilTime, Cond.instanceMethod yX0_civilTime, Cond.selects RX0 yX0_civilTime yX0_civilTime, Cond.code yX0_civilTime cX0_civilTime 6 (some .long), Cond.methodLink RX0 20 yX0_contains, Cond.static yX0_contains, Cond.code yX0_contains cX0_contains 2 (some .boolean), Cond.methodLink RX0 24 yX0_partCome, Cond.static yX0_partCome, Cond.code yX0_partCome cX0_partCome 5 (some .long), Cond.methodLink RX0 28 yX0_smearBeginning, Cond.static yX0_smearBeginning]
def Q1_13 : List Cond := [Cond.code yX0_smearBeginning cX0_smearBeginning 1 (some .long), Cond.constantLong RX0 9 (86400000000), Cond.constantLong RX0 11 (20000000000), Cond.constantLong RX0 32 (20000), Cond.constantLong RX0 34 (1000000), Cond.methodLink RL 87 yL_started, Cond.static yL_started, Cond.codeWith yL_started cL_started 3 (some .int) [(0, 5, 8, 13)], Cond.classLink RL 13 "java/lang/IllegalArgumentException", Cond.methodLink RL 7 yX5_restart, Cond.instanceMethod yX5_restart, Cond.selects RX5 yX5_restart yX5_restart, Cond.code yX5_restart cX5_restart 2 none, Cond.constant RX5 41 (-1000000000), Cond.constant RX5 42 (1000000000), Cond.methodLink RX5 43 yX5_isWithin]
def Q1_14 : List Cond := [Cond.static yX5_isWithin, Cond.code yX5_isWithin cX5_isWithin 3 (some .boolean), Cond.classLink RX5 47 "java/lang/IllegalArgumentException", Cond.instantiable "java/lang/IllegalArgumentException" 6, Cond.castable "java/lang/IllegalArgumentException" "java/lang/IllegalArgumentException", Cond.declares ⟨"java/lang/RuntimeException", "<init>", "()V"⟩, Cond.declares ⟨"java/lang/RuntimeException", "<init>", "(Ljava/lang/String;)V"⟩, Cond.declares ⟨"java/lang/Exception", "<init>", "()V"⟩, Cond.declares ⟨"java/lang/Exception", "<init>", "(Ljava/lang/String;)V"⟩, Cond.declares ⟨"java/lang/Throwable", "<init>", "()V"⟩, Cond.declares ⟨"java/lang/Throwable", "<init>", "(Ljava/lang/String;)V"⟩, Cond.selects "java/lang/IllegalArgumentException" ⟨"java/lang/Throwable", "fillInStackTrace", "(I)Ljava/lang/Throwable;"⟩ ⟨"java/lang/Throwable", "fillInStackTrace", "(I)Ljava/lang/Throwable;"⟩, Cond.selects "java/lang/IllegalArgumentException" ⟨"java/lang/Throwable", "fillInStackTrace", "()Ljava/lang/Throwable;"⟩ ⟨"java/lang/Throwable", "fillInStackTrace", "()Ljava/lang/Throwable;"⟩, Cond.lays "java/lang/IllegalArgumentException" "java/lang/Throwable" "cause" "Ljava/lang/Throwable;", Cond.lays "java/lang/Throwable" "java/lang/Throwable" "cause" "Ljava/lang/Throwable;", Cond.lays "java/lang/IllegalArgumentException" "java/lang/Throwable" "stackTrace" "[Ljava/lang/StackTraceElement;"]
set_option maxRecDepth 100000 in
theorem Qe1 : tables_1_1 = Q1_0 ++ (Q1_1 ++ (Q1_2 ++ (Q1_3 ++ (Q1_4 ++ (Q1_5 ++ (Q1_6 ++ (Q1_7 ++ (Q1_8 ++ (Q1_9 ++ (Q1_10 ++ (Q1_11 ++ (Q1_12 ++ (Q1_13 ++ (Q1_14)))))))))))))) := rfl
theorem Q1_0i {w : Cond} (h : w ∈ Q1_0) : w ∈ lw_tbl := List.mem_append_right _ (List.mem_append_left _ (by rw [Qe1]; exact List.mem_append_left _ h))
theorem Q1_1i {w : Cond} (h : w ∈ Q1_1) : w ∈ lw_tbl := List.mem_append_right _ (List.mem_append_left _ (by rw [Qe1]; exact List.mem_append_right _ (List.mem_append_left _ h)))
theorem Q1_2i {w : Cond} (h : w ∈ Q1_2) : w ∈ lw_tbl := List.mem_append_right _ (List.mem_append_left _ (by rw [Qe1]; exact List.mem_append_right _ (List.mem_append_right _ (List.mem_append_left _ h))))
theorem Q1_3i {w : Cond} (h : w ∈ Q1_3) : w ∈ lw_tbl := List.mem_append_right _ (List.mem_append_left _ (by rw [Qe1]; exact List.mem_append_right _ (List.mem_append_right _ (List.mem_append_right _ (List.mem_append_left _ h)))))
theorem Q1_4i {w : Cond} (h : w ∈ Q1_4) : w ∈ lw_tbl := List.mem_append_right _ (List.mem_append_left _ (by rw [Qe1]; exact List.mem_append_right _ (List.mem_append_right _ (List.mem_append_right _ (List.mem_append_right _ (List.mem_append_left _ h))))))
theorem Q1_5i {w : Cond} (h : w ∈ Q1_5) : w ∈ lw_tbl := List.mem_append_right _ (List.mem_append_left _ (by rw [Qe1]; exact List.mem_append_right _ (List.mem_append_right _ (List.mem_append_right _ (List.mem_append_right _ (List.mem_append_right _ (List.mem_append_left _ h)))))))
theorem Q1_6i {w : Cond} (h : w ∈ Q1_6) : w ∈ lw_tbl := List.mem_append_right _ (List.mem_append_left _ (by rw [Qe1]; exact List.mem_append_right _ (List.mem_append_right _ (List.mem_append_right _ (List.mem_append_right _ (List.mem_append_right _ (List.mem_append_right _ (List.mem_append_left _ h))))))))
theorem Q1_7i {w : Cond} (h : w ∈ Q1_7) : w ∈ lw_tbl := List.mem_append_right _ (List.mem_append_left _ (by rw [Qe1]; exact List.mem_append_right _ (List.mem_append_right _ (List.mem_append_right _ (List.mem_append_right _ (List.mem_append_right _ (List.mem_append_right _ (List.mem_append_right _ (List.mem_append_left _ h)))))))))
theorem Q1_8i {w : Cond} (h : w ∈ Q1_8) : w ∈ lw_tbl := List.mem_append_right _ (List.mem_append_left _ (by rw [Qe1]; exact List.mem_append_right _ (List.mem_append_right _ (List.mem_append_right _ (List.mem_append_right _ (List.mem_append_right _ (List.mem_append_right _ (List.mem_append_right _ (List.mem_append_right _ (List.mem_append_left _ h))))))))))
theorem Q1_9i {w : Cond} (h : w ∈ Q1_9) : w ∈ lw_tbl := List.mem_append_right _ (List.mem_append_left _ (by rw [Qe1]; exact List.mem_append_right _ (List.mem_append_right _ (List.mem_append_right _ (List.mem_append_right _ (List.mem_append_right _ (List.mem_append_right _ (List.mem_append_right _ (List.mem_append_right _ (List.mem_append_right _ (List.mem_append_left _ h)))))))))))
theorem Q1_10i {w : Cond} (h : w ∈ Q1_10) : w ∈ lw_tbl := List.mem_append_right _ (List.mem_append_left _ (by rw [Qe1]; exact List.mem_append_right _ (List.mem_append_right _ (List.mem_append_right _ (List.mem_append_right _ (List.mem_append_right _ (List.mem_append_right _ (List.mem_append_right _ (List.mem_append_right _ (List.mem_append_right _ (List.mem_append_right _ (List.mem_append_left _ h))))))))))))
theorem Q1_11i {w : Cond} (h : w ∈ Q1_11) : w ∈ lw_tbl := List.mem_append_right _ (List.mem_append_left _ (by rw [Qe1]; exact List.mem_append_right _ (List.mem_append_right _ (List.mem_append_right _ (List.mem_append_right _ (List.mem_append_right _ (List.mem_append_right _ (List.mem_append_right _ (List.mem_append_right _ (List.mem_append_right _ (List.mem_append_right _ (List.mem_append_right _ (List.mem_append_left _ h)))))))))))))
theorem Q1_12i {w : Cond} (h : w ∈ Q1_12) : w ∈ lw_tbl := List.mem_append_right _ (List.mem_append_left _ (by rw [Qe1]; exact List.mem_append_right _ (List.mem_append_right _ (List.mem_append_right _ (List.mem_append_right _ (List.mem_append_right _ (List.mem_append_right _ (List.mem_append_right _ (List.mem_append_right _ (List.mem_append_right _ (List.mem_append_right _ (List.mem_append_right _ (List.mem_append_right _ (List.mem_append_left _ h))))))))))))))
theorem Q1_13i {w : Cond} (h : w ∈ Q1_13) : w ∈ lw_tbl := List.mem_append_right _ (List.mem_append_left _ (by rw [Qe1]; exact List.mem_append_right _ (List.mem_append_right _ (List.mem_append_right _ (List.mem_append_right _ (List.mem_append_right _ (List.mem_append_right _ (List.mem_append_right _ (List.mem_append_right _ (List.mem_append_right _ (List.mem_append_right _ (List.mem_append_right _ (List.mem_append_right _ (List.mem_append_right _ (List.mem_append_left _ h)))))))))))))))
theorem Q1_14i {w : Cond} (h : w ∈ Q1_14) : w ∈ lw_tbl := List.mem_append_right _ (List.mem_append_left _ (by rw [Qe1]; exact List.mem_append_right _ (List.mem_append_right _ (List.mem_append_right _ (List.mem_append_right _ (List.mem_append_right _ (List.mem_append_right _ (List.mem_append_right _ (List.mem_append_right _ (List.mem_append_right _ (List.mem_append_right _ (List.mem_append_right _ (List.mem_append_right _ (List.mem_append_right _ (List.mem_append_right _ (h))))))))))))))))
def Q2_0 : List Cond := [Cond.lays "java/lang/Throwable" "java/lang/Throwable" "stackTrace" "[Ljava/lang/StackTraceElement;", Cond.lays "java/lang/IllegalArgumentException" "java/lang/Throwable" "suppressedExceptions" "Ljava/util/List;", Cond.lays "java/lang/Throwable" "java/lang/Throwable" "suppressedExceptions" "Ljava/util/List;", Cond.lays "java/lang/IllegalArgumentException" "java/lang/Throwable" "detailMessage" "Ljava/lang/String;", Cond.lays "java/lang/Throwable" "java/lang/Throwable" "detailMessage" "Ljava/lang/String;", Cond.lays "java/lang/IllegalArgumentException" "java/lang/Throwable" "backtrace" "Ljava/lang/Object;", Cond.lays "java/lang/Throwable" "java/lang/Throwable" "backtrace" "Ljava/lang/Object;", Cond.fieldLink "java/lang/Throwable" 198 "java/lang/Throwable" "backtrace" "Ljava/lang/Object;", Cond.superclass "java/lang/Throwable" "java/lang/Object", Cond.instanceMethod ⟨"java/lang/Throwable", "<init>", "()V"⟩, Cond.code ⟨"java/lang/Throwable", "<init>", "()V"⟩ prog_16_method_1_code 1 none, Cond.methodLink "java/lang/Throwable" 1 objectInit, Cond.fieldLink "java/lang/Throwable" 13 "java/lang/Throwable" "UNASSIGNED_STACK" "[Ljava/lang/StackTraceElement;", Cond.laysStatic "java/lang/Throwable" "UNASSIGNED_STACK" "[Ljava/lang/StackTraceElement;", Cond.fieldLink "java/lang/Throwable" 20 "java/lang/Throwable" "SUPPRESSED_SENTINEL" "Ljava/util/List;", Cond.laysStatic "java/lang/Throwable" "SUPPRESSED_SENTINEL" "Ljava/util/List;"]
def Q2_1 : List Cond := [Cond.methodLink "java/lang/Throwable" 27 ⟨"java/lang/Throwable", "fillInStackTrace", "()Ljava/lang/Throwable;"⟩, Cond.instanceMethod ⟨"java/lang/Throwable", "fillInStackTrace", "()Ljava/lang/Throwable;"⟩, Cond.sameMethod "java/lang/Throwable" "java/lang/Throwable" "fillInStackTrace" "()Ljava/lang/Throwable;", Cond.selects "java/lang/IllegalStateException" ⟨"java/lang/Throwable", "fillInStackTrace", "()Ljava/lang/Throwable;"⟩ ⟨"java/lang/Throwable", "fillInStackTrace", "()Ljava/lang/Throwable;"⟩, Cond.selects "java/lang/IndexOutOfBoundsException" ⟨"java/lang/Throwable", "fillInStackTrace", "()Ljava/lang/Throwable;"⟩ ⟨"java/lang/Throwable", "fillInStackTrace", "()Ljava/lang/Throwable;"⟩, Cond.codeSync ⟨"java/lang/Throwable", "fillInStackTrace", "()Ljava/lang/Throwable;"⟩ prog_16_method_18_code 1 (some (.object "java/lang/Throwable")), Cond.methodLink "java/lang/Throwable" 202 ⟨"java/lang/Throwable", "fillInStackTrace", "(I)Ljava/lang/Throwable;"⟩, Cond.privateMethod ⟨"java/lang/Throwable", "fillInStackTrace", "(I)Ljava/lang/Throwable;"⟩, Cond.instanceMethod ⟨"java/lang/Throwable", "fillInStackTrace", "(I)Ljava/lang/Throwable;"⟩, Cond.instantiable "java/lang/Throwable" 6, Cond.native ⟨"java/lang/Throwable", "fillInStackTrace", "(I)Ljava/lang/Throwable;"⟩, Cond.methodLink RX5 49 ⟨"java/lang/IllegalArgumentException", "<init>", "()V"⟩, Cond.instanceMethod ⟨"java/lang/IllegalArgumentException", "<init>", "()V"⟩, Cond.code ⟨"java/lang/IllegalArgumentException", "<init>", "()V"⟩ prog_10_method_1_code 1 none, Cond.methodLink "java/lang/IllegalArgumentException" 1 ⟨"java/lang/RuntimeException", "<init>", "()V"⟩, Cond.instanceMethod ⟨"java/lang/RuntimeException", "<init>", "()V"⟩]
def Q2_2 : List Cond := [Cond.code ⟨"java/lang/RuntimeException", "<init>", "()V"⟩ prog_15_method_1_code 1 none, Cond.methodLink "java/lang/RuntimeException" 1 ⟨"java/lang/Exception", "<init>", "()V"⟩, Cond.instanceMethod ⟨"java/lang/Exception", "<init>", "()V"⟩, Cond.code ⟨"java/lang/Exception", "<init>", "()V"⟩ prog_9_method_1_code 1 none, Cond.methodLink "java/lang/Exception" 1 ⟨"java/lang/Throwable", "<init>", "()V"⟩, Cond.fieldLink "java/lang/Throwable" 198 "java/lang/Throwable" "backtrace" "Ljava/lang/Object;", Cond.fieldLink "java/lang/Throwable" 7 "java/lang/Throwable" "cause" "Ljava/lang/Throwable;", Cond.fieldLink "java/lang/Throwable" 17 "java/lang/Throwable" "stackTrace" "[Ljava/lang/StackTraceElement;", Cond.fieldLink "java/lang/Throwable" 24 "java/lang/Throwable" "suppressedExceptions" "Ljava/util/List;", Cond.soleField "java/lang/Throwable" "backtrace", Cond.soleField "java/lang/Throwable" "detailMessage", Cond.soleField "java/lang/Throwable" "cause", Cond.soleField "java/lang/Throwable" "stackTrace", Cond.lays "java/lang/IllegalArgumentException" "java/lang/Throwable" "depth" "I", Cond.soleField "java/lang/Throwable" "depth", Cond.soleField "java/lang/Throwable" "suppressedExceptions"]
def Q2_3 : List Cond := [Cond.superclass "java/lang/IllegalArgumentException" "java/lang/RuntimeException", Cond.constant RL 15 (-9999002), Cond.methodLink RL 194 yL_drawn, Cond.static yL_drawn, Cond.code yL_drawn cL_drawn 2 (some .int), Cond.constant RL 81 (15522001), Cond.constant RL 82 (2147483647), Cond.methodLink RL 200 yL_refuses, Cond.static yL_refuses, Cond.code yL_refuses cL_refuses 5 (some .boolean), Cond.methodLink RL 83 yX5_servers, Cond.instanceMethod yX5_servers, Cond.selects RX5 yX5_servers yX5_servers, Cond.code yX5_servers cX5_servers 1 (some .int), Cond.constant RL 86 (1000000001), Cond.methodLink RL 93 yL_passed]
def Q2_4 : List Cond := [Cond.static yL_passed, Cond.codeWith yL_passed cL_passed 3 (some .long) [(0, 5, 6, 13), (0, 5, 11, 22)], Cond.classLink RL 22 "java/lang/IllegalStateException", Cond.methodLink RL 16 yX5_pass, Cond.instanceMethod yX5_pass, Cond.selects RX5 yX5_pass yX5_pass, Cond.code yX5_pass cX5_pass 2 (some .long), Cond.methodLink RX5 50 yX5_isBeyondLastTrueTime, Cond.privateMethod yX5_isBeyondLastTrueTime, Cond.instanceMethod yX5_isBeyondLastTrueTime, Cond.code yX5_isBeyondLastTrueTime cX5_isBeyondLastTrueTime 3 (some .boolean), Cond.constantLong RX5 203 (1000000000000), Cond.classLink RX5 54 "java/lang/IllegalStateException", Cond.instantiable "java/lang/IllegalStateException" 6, Cond.castable "java/lang/IllegalStateException" "java/lang/IllegalStateException", Cond.selects "java/lang/IllegalStateException" ⟨"java/lang/Throwable", "fillInStackTrace", "(I)Ljava/lang/Throwable;"⟩ ⟨"java/lang/Throwable", "fillInStackTrace", "(I)Ljava/lang/Throwable;"⟩]
def Q2_5 : List Cond := [Cond.lays "java/lang/IllegalStateException" "java/lang/Throwable" "cause" "Ljava/lang/Throwable;", Cond.lays "java/lang/IllegalStateException" "java/lang/Throwable" "stackTrace" "[Ljava/lang/StackTraceElement;", Cond.lays "java/lang/IllegalStateException" "java/lang/Throwable" "suppressedExceptions" "Ljava/util/List;", Cond.lays "java/lang/IllegalStateException" "java/lang/Throwable" "detailMessage" "Ljava/lang/String;", Cond.lays "java/lang/IllegalStateException" "java/lang/Throwable" "backtrace" "Ljava/lang/Object;", Cond.methodLink RX5 56 ⟨"java/lang/IllegalStateException", "<init>", "()V"⟩, Cond.instanceMethod ⟨"java/lang/IllegalStateException", "<init>", "()V"⟩, Cond.code ⟨"java/lang/IllegalStateException", "<init>", "()V"⟩ prog_11_method_1_code 1 none, Cond.methodLink "java/lang/IllegalStateException" 1 ⟨"java/lang/RuntimeException", "<init>", "()V"⟩, Cond.lays "java/lang/IllegalStateException" "java/lang/Throwable" "depth" "I", Cond.superclass "java/lang/IllegalStateException" "java/lang/RuntimeException", Cond.methodLink RX5 57 yX5_elapse, Cond.privateMethod yX5_elapse, Cond.instanceMethod yX5_elapse, Cond.code yX5_elapse cX5_elapse 2 none, Cond.methodLink RX5 205 yX1_elapse]
def Q2_6 : List Cond := [Cond.instanceMethod yX1_elapse, Cond.selects RX1 yX1_elapse yX1_elapse, Cond.code yX1_elapse cX1_elapse 6 none, Cond.constantLong RX1 33 (500), Cond.methodLink RX1 35 Lib.MathLoose.min_long.x, Cond.static Lib.MathLoose.min_long.x, Cond.code Lib.MathLoose.min_long.x Lib.MathLoose.min_long.code 4 (some .long), Cond.methodLink RX1 38 Lib.MathLoose.max_long.x, Cond.static Lib.MathLoose.max_long.x, Cond.code Lib.MathLoose.max_long.x Lib.MathLoose.max_long.code 4 (some .long), Cond.constantLong RL 20 (-9999002), Cond.constantLong RL 24 (-9999003), Cond.methodLink RL 97 yL_drifts, Cond.static yL_drifts, Cond.codeWith yL_drifts cL_drifts 3 (some .int) [(0, 5, 6, 13)], Cond.methodLink RL 26 yX5_setDrift]
def Q2_7 : List Cond := [Cond.instanceMethod yX5_setDrift, Cond.selects RX5 yX5_setDrift yX5_setDrift, Cond.code yX5_setDrift cX5_setDrift 2 (some .int), Cond.methodLink RX5 64 yX1_changeDrift, Cond.instanceMethod yX1_changeDrift, Cond.selects RX1 yX1_changeDrift yX1_changeDrift, Cond.code yX1_changeDrift cX1_changeDrift 3 (some .int), Cond.methodLink RL 100 yL_announced, Cond.static yL_announced, Cond.codeWith yL_announced cL_announced 4 (some .long) [(0, 6, 7, 13), (0, 6, 12, 22)], Cond.methodLink RL 30 yX5_announceLeap, Cond.instanceMethod yX5_announceLeap, Cond.selects RX5 yX5_announceLeap yX5_announceLeap, Cond.code yX5_announceLeap cX5_announceLeap 5 (some .long), Cond.methodLink RX5 79 yX0_smearBeginning, Cond.methodLink RX5 83 yX0_isAnnounced]
def Q2_8 : List Cond := [Cond.instanceMethod yX0_isAnnounced, Cond.selects RX0 yX0_isAnnounced yX0_isAnnounced, Cond.code yX0_isAnnounced cX0_isAnnounced 2 (some .boolean), Cond.methodLink RX5 87 yX0_announce, Cond.instanceMethod yX0_announce, Cond.selects RX0 yX0_announce yX0_announce, Cond.code yX0_announce cX0_announce 3 none, Cond.methodLink RL 104 yL_added, Cond.static yL_added, Cond.codeWith yL_added cL_added 6 (some .int) [(0, 9, 10, 13), (0, 9, 15, 22)], Cond.methodLink RL 34 yX5_addServer, Cond.instanceMethod yX5_addServer, Cond.selects RX5 yX5_addServer yX5_addServer, Cond.code yX5_addServer cX5_addServer 6 (some .int), Cond.methodLink RX5 95 yX5_isServerError, Cond.static yX5_isServerError]
def Q2_9 : List Cond := [Cond.code yX5_isServerError cX5_isServerError 1 (some .boolean), Cond.constant RX5 198 (-1000000), Cond.constant RX5 98 (1000000), Cond.methodLink RX5 103 yX5_roomOrNull, Cond.privateMethod yX5_roomOrNull, Cond.instanceMethod yX5_roomOrNull, Cond.code yX5_roomOrNull cX5_roomOrNull 2 (some (.object "Clockhouse$Server")), Cond.methodLink RX5 107 yX4_settle, Cond.instanceMethod yX4_settle, Cond.selects RX4 yX4_settle yX4_settle, Cond.code yX4_settle cX4_settle 5 none, Cond.methodLink RX4 38 yX4_forget, Cond.instanceMethod yX4_forget, Cond.selects RX4 yX4_forget yX4_forget, Cond.code yX4_forget cX4_forget 1 none, Cond.constant RL 38 (-9999003)]
def Q2_10 : List Cond := [Cond.constant RL 108 (-1000001), Cond.constant RL 109 (2000000), Cond.methodLink RL 110 yL_changed, Cond.static yL_changed, Cond.codeWith yL_changed cL_changed 4 (some .int) [(0, 6, 7, 43), (0, 6, 11, 13)], Cond.classLink RL 43 "java/lang/IndexOutOfBoundsException", Cond.methodLink RL 39 yX5_setError, Cond.instanceMethod yX5_setError, Cond.selects RX5 yX5_setError yX5_setError, Cond.code yX5_setError cX5_setError 4 (some .int), Cond.methodLink RX5 111 yX5_knownServer, Cond.privateMethod yX5_knownServer, Cond.instanceMethod yX5_knownServer, Cond.code yX5_knownServer cX5_knownServer 3 (some (.object "Clockhouse$Server")), Cond.methodLink RX5 206 yX5_serverOrNull, Cond.privateMethod yX5_serverOrNull]
def Q2_11 : List Cond := [Cond.instanceMethod yX5_serverOrNull, Cond.code yX5_serverOrNull cX5_serverOrNull 2 (some (.object "Clockhouse$Server")), Cond.classLink RX5 209 "java/lang/IndexOutOfBoundsException", Cond.instantiable "java/lang/IndexOutOfBoundsException" 6, Cond.castable "java/lang/IndexOutOfBoundsException" "java/lang/IndexOutOfBoundsException", Cond.selects "java/lang/IndexOutOfBoundsException" ⟨"java/lang/Throwable", "fillInStackTrace", "(I)Ljava/lang/Throwable;"⟩ ⟨"java/lang/Throwable", "fillInStackTrace", "(I)Ljava/lang/Throwable;"⟩, Cond.lays "java/lang/IndexOutOfBoundsException" "java/lang/Throwable" "cause" "Ljava/lang/Throwable;", Cond.lays "java/lang/IndexOutOfBoundsException" "java/lang/Throwable" "stackTrace" "[Ljava/lang/StackTraceElement;", Cond.lays "java/lang/IndexOutOfBoundsException" "java/lang/Throwable" "suppressedExceptions" "Ljava/util/List;", Cond.lays "java/lang/IndexOutOfBoundsException" "java/lang/Throwable" "detailMessage" "Ljava/lang/String;", Cond.lays "java/lang/IndexOutOfBoundsException" "java/lang/Throwable" "backtrace" "Ljava/lang/Object;", Cond.methodLink RX5 211 ⟨"java/lang/IndexOutOfBoundsException", "<init>", "()V"⟩, Cond.instanceMethod ⟨"java/lang/IndexOutOfBoundsException", "<init>", "()V"⟩, Cond.code ⟨"java/lang/IndexOutOfBoundsException", "<init>", "()V"⟩ prog_12_method_1_code 1 none, Cond.methodLink "java/lang/IndexOutOfBoundsException" 1 ⟨"java/lang/RuntimeException", "<init>", "()V"⟩, Cond.lays "java/lang/IndexOutOfBoundsException" "java/lang/Throwable" "depth" "I"]
def Q2_12 : List Cond := [Cond.superclass "java/lang/IndexOutOfBoundsException" "java/lang/RuntimeException", Cond.methodLink RX5 114 yX4_changeError, Cond.instanceMethod yX4_changeError, Cond.selects RX4 yX4_changeError yX4_changeError, Cond.code yX4_changeError cX4_changeError 3 (some .int), Cond.constant RL 45 (-9999001), Cond.methodLink RL 114 yL_exchanged, Cond.static yL_exchanged, Cond.codeWith yL_exchanged cL_exchanged 6 (some .long) [(0, 9, 10, 43), (0, 9, 16, 13), (0, 9, 22, 22)], Cond.methodLink RL 46 yX5_exchange, Cond.instanceMethod yX5_exchange, Cond.selects RX5 yX5_exchange yX5_exchange, Cond.code yX5_exchange cX5_exchange 6 (some .long), Cond.constant RX5 117 (500000), Cond.constant RX5 118 (100000), Cond.methodLink RX5 119 yX5_takeSample]
def Q2_13 : List Cond := [Cond.privateMethod yX5_takeSample, Cond.instanceMethod yX5_takeSample, Cond.code yX5_takeSample cX5_takeSample 17 (some .long), Cond.methodLink RX5 212 yX4_readingAt, Cond.instanceMethod yX4_readingAt, Cond.selects RX4 yX4_readingAt yX4_readingAt, Cond.code yX4_readingAt cX4_readingAt 3 (some .long), Cond.constantLong RX5 215 (2), Cond.methodLink RX5 217 yJ9_floorDiv_f86c9, Cond.methodLink RX5 223 Lib.MathLoose.max_long.x, Cond.methodLink RX5 226 yX4_keep, Cond.instanceMethod yX4_keep, Cond.selects RX4 yX4_keep yX4_keep, Cond.code yX4_keep cX4_keep 7 none, Cond.methodLink RX4 47 yX2_push, Cond.instanceMethod yX2_push]
def Q2_14 : List Cond := [Cond.selects RX2 yX2_push yX2_push, Cond.code yX2_push cX2_push 4 none, Cond.methodLink RX2 13 yX2_get, Cond.instanceMethod yX2_get, Cond.selects RX2 yX2_get yX2_get, Cond.code yX2_get cX2_get 2 (some .long), Cond.methodLink RX2 17 yX2_put, Cond.instanceMethod yX2_put, Cond.selects RX2 yX2_put yX2_put, Cond.code yX2_put cX2_put 4 none, Cond.methodLink RX4 51 Lib.Math.min.name, Cond.static Lib.Math.min.name, Cond.code Lib.Math.min.name Lib.Math.min.code 2 (some .int), Cond.methodLink RX4 57 yX4_leastDelay, Cond.privateMethod yX4_leastDelay, Cond.instanceMethod yX4_leastDelay]
set_option maxRecDepth 100000 in
theorem Qe2 : tables_1_2 = Q2_0 ++ (Q2_1 ++ (Q2_2 ++ (Q2_3 ++ (Q2_4 ++ (Q2_5 ++ (Q2_6 ++ (Q2_7 ++ (Q2_8 ++ (Q2_9 ++ (Q2_10 ++ (Q2_11 ++ (Q2_12 ++ (Q2_13 ++ (Q2_14)))))))))))))) := rfl
theorem Q2_0i {w : Cond} (h : w ∈ Q2_0) : w ∈ lw_tbl := List.mem_append_right _ (List.mem_append_right _ (List.mem_append_left _ (by rw [Qe2]; exact List.mem_append_left _ h)))
theorem Q2_1i {w : Cond} (h : w ∈ Q2_1) : w ∈ lw_tbl := List.mem_append_right _ (List.mem_append_right _ (List.mem_append_left _ (by rw [Qe2]; exact List.mem_append_right _ (List.mem_append_left _ h))))
theorem Q2_2i {w : Cond} (h : w ∈ Q2_2) : w ∈ lw_tbl := List.mem_append_right _ (List.mem_append_right _ (List.mem_append_left _ (by rw [Qe2]; exact List.mem_append_right _ (List.mem_append_right _ (List.mem_append_left _ h)))))
theorem Q2_3i {w : Cond} (h : w ∈ Q2_3) : w ∈ lw_tbl := List.mem_append_right _ (List.mem_append_right _ (List.mem_append_left _ (by rw [Qe2]; exact List.mem_append_right _ (List.mem_append_right _ (List.mem_append_right _ (List.mem_append_left _ h))))))
theorem Q2_4i {w : Cond} (h : w ∈ Q2_4) : w ∈ lw_tbl := List.mem_append_right _ (List.mem_append_right _ (List.mem_append_left _ (by rw [Qe2]; exact List.mem_append_right _ (List.mem_append_right _ (List.mem_append_right _ (List.mem_append_right _ (List.mem_append_left _ h)))))))
theorem Q2_5i {w : Cond} (h : w ∈ Q2_5) : w ∈ lw_tbl := List.mem_append_right _ (List.mem_append_right _ (List.mem_append_left _ (by rw [Qe2]; exact List.mem_append_right _ (List.mem_append_right _ (List.mem_append_right _ (List.mem_append_right _ (List.mem_append_right _ (List.mem_append_left _ h))))))))
theorem Q2_6i {w : Cond} (h : w ∈ Q2_6) : w ∈ lw_tbl := List.mem_append_right _ (List.mem_append_right _ (List.mem_append_left _ (by rw [Qe2]; exact List.mem_append_right _ (List.mem_append_right _ (List.mem_append_right _ (List.mem_append_right _ (List.mem_append_right _ (List.mem_append_right _ (List.mem_append_left _ h)))))))))
theorem Q2_7i {w : Cond} (h : w ∈ Q2_7) : w ∈ lw_tbl := List.mem_append_right _ (List.mem_append_right _ (List.mem_append_left _ (by rw [Qe2]; exact List.mem_append_right _ (List.mem_append_right _ (List.mem_append_right _ (List.mem_append_right _ (List.mem_append_right _ (List.mem_append_right _ (List.mem_append_right _ (List.mem_append_left _ h))))))))))
theorem Q2_8i {w : Cond} (h : w ∈ Q2_8) : w ∈ lw_tbl := List.mem_append_right _ (List.mem_append_right _ (List.mem_append_left _ (by rw [Qe2]; exact List.mem_append_right _ (List.mem_append_right _ (List.mem_append_right _ (List.mem_append_right _ (List.mem_append_right _ (List.mem_append_right _ (List.mem_append_right _ (List.mem_append_right _ (List.mem_append_left _ h)))))))))))
theorem Q2_9i {w : Cond} (h : w ∈ Q2_9) : w ∈ lw_tbl := List.mem_append_right _ (List.mem_append_right _ (List.mem_append_left _ (by rw [Qe2]; exact List.mem_append_right _ (List.mem_append_right _ (List.mem_append_right _ (List.mem_append_right _ (List.mem_append_right _ (List.mem_append_right _ (List.mem_append_right _ (List.mem_append_right _ (List.mem_append_right _ (List.mem_append_left _ h))))))))))))
theorem Q2_10i {w : Cond} (h : w ∈ Q2_10) : w ∈ lw_tbl := List.mem_append_right _ (List.mem_append_right _ (List.mem_append_left _ (by rw [Qe2]; exact List.mem_append_right _ (List.mem_append_right _ (List.mem_append_right _ (List.mem_append_right _ (List.mem_append_right _ (List.mem_append_right _ (List.mem_append_right _ (List.mem_append_right _ (List.mem_append_right _ (List.mem_append_right _ (List.mem_append_left _ h)))))))))))))
theorem Q2_11i {w : Cond} (h : w ∈ Q2_11) : w ∈ lw_tbl := List.mem_append_right _ (List.mem_append_right _ (List.mem_append_left _ (by rw [Qe2]; exact List.mem_append_right _ (List.mem_append_right _ (List.mem_append_right _ (List.mem_append_right _ (List.mem_append_right _ (List.mem_append_right _ (List.mem_append_right _ (List.mem_append_right _ (List.mem_append_right _ (List.mem_append_right _ (List.mem_append_right _ (List.mem_append_left _ h))))))))))))))
theorem Q2_12i {w : Cond} (h : w ∈ Q2_12) : w ∈ lw_tbl := List.mem_append_right _ (List.mem_append_right _ (List.mem_append_left _ (by rw [Qe2]; exact List.mem_append_right _ (List.mem_append_right _ (List.mem_append_right _ (List.mem_append_right _ (List.mem_append_right _ (List.mem_append_right _ (List.mem_append_right _ (List.mem_append_right _ (List.mem_append_right _ (List.mem_append_right _ (List.mem_append_right _ (List.mem_append_right _ (List.mem_append_left _ h)))))))))))))))
theorem Q2_13i {w : Cond} (h : w ∈ Q2_13) : w ∈ lw_tbl := List.mem_append_right _ (List.mem_append_right _ (List.mem_append_left _ (by rw [Qe2]; exact List.mem_append_right _ (List.mem_append_right _ (List.mem_append_right _ (List.mem_append_right _ (List.mem_append_right _ (List.mem_append_right _ (List.mem_append_right _ (List.mem_append_right _ (List.mem_append_right _ (List.mem_append_right _ (List.mem_append_right _ (List.mem_append_right _ (List.mem_append_right _ (List.mem_append_left _ h))))))))))))))))
theorem Q2_14i {w : Cond} (h : w ∈ Q2_14) : w ∈ lw_tbl := List.mem_append_right _ (List.mem_append_right _ (List.mem_append_left _ (by rw [Qe2]; exact List.mem_append_right _ (List.mem_append_right _ (List.mem_append_right _ (List.mem_append_right _ (List.mem_append_right _ (List.mem_append_right _ (List.mem_append_right _ (List.mem_append_right _ (List.mem_append_right _ (List.mem_append_right _ (List.mem_append_right _ (List.mem_append_right _ (List.mem_append_right _ (List.mem_append_right _ (h)))))))))))))))))
def Q3_0 : List Cond := [Cond.code yX4_leastDelay cX4_leastDelay 3 (some .int), Cond.methodLink RX4 61 yX2_get, Cond.constantLong RL 50 (-9999001), Cond.methodLink RL 118 yL_samples, Cond.static yL_samples, Cond.codeWith yL_samples cL_samples 3 (some .int) [(0, 5, 6, 43)], Cond.methodLink RL 52 yX5_samples, Cond.instanceMethod yX5_samples, Cond.selects RX5 yX5_samples yX5_samples, Cond.code yX5_samples cX5_samples 2 (some .int), Cond.methodLink RX5 123 yX4_kept, Cond.instanceMethod yX4_kept, Cond.selects RX4 yX4_kept yX4_kept, Cond.code yX4_kept cX4_kept 1 (some .int), Cond.methodLink RL 120 yL_offset, Cond.static yL_offset]
def Q3_1 : List Cond := [Cond.codeWith yL_offset cL_offset 3 (some .long) [(0, 5, 6, 43), (0, 5, 11, 22)], Cond.methodLink RL 55 yX5_offset, Cond.instanceMethod yX5_offset, Cond.selects RX5 yX5_offset yX5_offset, Cond.code yX5_offset cX5_offset 2 (some .long), Cond.methodLink RX5 126 yX5_heardServer, Cond.privateMethod yX5_heardServer, Cond.instanceMethod yX5_heardServer, Cond.code yX5_heardServer cX5_heardServer 3 (some (.object "Clockhouse$Server")), Cond.methodLink RX5 129 yX4_bestOffset, Cond.instanceMethod yX4_bestOffset, Cond.selects RX4 yX4_bestOffset yX4_bestOffset, Cond.code yX4_bestOffset cX4_bestOffset 1 (some .long), Cond.methodLink RL 122 yL_delay, Cond.static yL_delay, Cond.codeWith yL_delay cL_delay 3 (some .long) [(0, 5, 6, 43), (0, 5, 11, 22)]]
def Q3_2 : List Cond := [Cond.methodLink RL 58 yX5_delay, Cond.instanceMethod yX5_delay, Cond.selects RX5 yX5_delay yX5_delay, Cond.code yX5_delay cX5_delay 2 (some .long), Cond.methodLink RX5 132 yX4_bestDelay, Cond.instanceMethod yX4_bestDelay, Cond.selects RX4 yX4_bestDelay yX4_bestDelay, Cond.code yX4_bestDelay cX4_bestDelay 1 (some .long), Cond.methodLink RL 124 yL_jitter, Cond.static yL_jitter, Cond.codeWith yL_jitter cL_jitter 3 (some .long) [(0, 5, 6, 43), (0, 5, 11, 22)], Cond.methodLink RL 61 yX5_jitter, Cond.instanceMethod yX5_jitter, Cond.selects RX5 yX5_jitter yX5_jitter, Cond.code yX5_jitter cX5_jitter 2 (some .long), Cond.methodLink RX5 135 yX4_offsetJitter]
def Q3_3 : List Cond := [Cond.instanceMethod yX4_offsetJitter, Cond.selects RX4 yX4_offsetJitter yX4_offsetJitter, Cond.code yX4_offsetJitter cX4_offsetJitter 6 (some .long), Cond.methodLink RX4 65 Lib.MathLoose.abs_long.x, Cond.static Lib.MathLoose.abs_long.x, Cond.code Lib.MathLoose.abs_long.x Lib.MathLoose.abs_long.code 2 (some .long), Cond.methodLink RL 126 yL_distance, Cond.static yL_distance, Cond.codeWith yL_distance cL_distance 3 (some .long) [(0, 5, 6, 43), (0, 5, 11, 22)], Cond.methodLink RL 64 yX5_distance, Cond.instanceMethod yX5_distance, Cond.selects RX5 yX5_distance yX5_distance, Cond.code yX5_distance cX5_distance 2 (some .long), Cond.methodLink RX5 138 yX4_distanceAt, Cond.instanceMethod yX4_distanceAt, Cond.selects RX4 yX4_distanceAt yX4_distanceAt]
def Q3_4 : List Cond := [Cond.code yX4_distanceAt cX4_distanceAt 5 (some .long), Cond.constantLong RX4 69 (2), Cond.methodLink RX4 71 yX4_bestDelay, Cond.methodLink RX4 75 yX4_offsetJitter, Cond.constantLong RX4 78 (15), Cond.constantLong RX4 80 (1000000), Cond.methodLink RX4 82 yJ9_floorDiv_f86c9, Cond.methodLink RL 128 yX5_hasMajority, Cond.instanceMethod yX5_hasMajority, Cond.selects RX5 yX5_hasMajority yX5_hasMajority, Cond.code yX5_hasMajority cX5_hasMajority 1 (some .boolean), Cond.methodLink RX5 141 yX5_select, Cond.privateMethod yX5_select, Cond.instanceMethod yX5_select, Cond.code yX5_select cX5_select 5 none, Cond.methodLink RX5 230 yX3_clear]
def Q3_5 : List Cond := [Cond.instanceMethod yX3_clear, Cond.selects RX3 yX3_clear yX3_clear, Cond.code yX3_clear cX3_clear 1 none, Cond.methodLink RX5 231 yX3_enter, Cond.instanceMethod yX3_enter, Cond.selects RX3 yX3_enter yX3_enter, Cond.code yX3_enter cX3_enter 5 none, Cond.methodLink RX3 44 yX4_bestOffset, Cond.methodLink RX3 50 yX2_put, Cond.methodLink RX3 54 yX4_distanceAt, Cond.methodLink RX3 58 yX4_offsetJitter, Cond.methodLink RX3 61 yX4_ownStratum, Cond.instanceMethod yX4_ownStratum, Cond.selects RX4 yX4_ownStratum yX4_ownStratum, Cond.code yX4_ownStratum cX4_ownStratum 1 (some .int), Cond.methodLink RX5 235 yX3_intersect]
def Q3_6 : List Cond := [Cond.instanceMethod yX3_intersect, Cond.selects RX3 yX3_intersect yX3_intersect, Cond.code yX3_intersect cX3_intersect 2 none, Cond.methodLink RX3 74 yX3_contains, Cond.static yX3_contains, Cond.code yX3_contains cX3_contains 2 (some .boolean), Cond.methodLink RX3 78 yX2_get, Cond.methodLink RX3 82 yX3_tryLowEnd, Cond.privateMethod yX3_tryLowEnd, Cond.instanceMethod yX3_tryLowEnd, Cond.code yX3_tryLowEnd cX3_tryLowEnd 5 none, Cond.methodLink RX3 89 yX3_intervalsWith, Cond.privateMethod yX3_intervalsWith, Cond.instanceMethod yX3_intervalsWith, Cond.code yX3_intervalsWith cX3_intervalsWith 5 (some .int), Cond.methodLink RX3 93 Lib.MathLoose.abs_long.x]
def Q3_7 : List Cond := [Cond.methodLink RX3 68 yJ6_bitCount_0f7a4, Cond.static yJ6_bitCount_0f7a4, Cond.code yJ6_bitCount_0f7a4 cJ6_bitCount_0f7a4 1 (some .int), Cond.constant RJ6 265 (1431655765), Cond.constant RJ6 266 (858993459), Cond.constant RJ6 267 (252645135), Cond.methodLink RX3 86 yX3_leastUpperEnd, Cond.privateMethod yX3_leastUpperEnd, Cond.instanceMethod yX3_leastUpperEnd, Cond.code yX3_leastUpperEnd cX3_leastUpperEnd 7 (some .long), Cond.methodLink RX5 238 yX3_cluster, Cond.instanceMethod yX3_cluster, Cond.selects RX3 yX3_cluster yX3_cluster, Cond.code yX3_cluster cX3_cluster 3 none, Cond.methodLink RX3 98 yX3_widestSpread, Cond.privateMethod yX3_widestSpread]
def Q3_8 : List Cond := [Cond.instanceMethod yX3_widestSpread, Cond.code yX3_widestSpread cX3_widestSpread 3 (some .int), Cond.methodLink RX3 101 yX3_spread, Cond.privateMethod yX3_spread, Cond.instanceMethod yX3_spread, Cond.code yX3_spread cX3_spread 6 (some .long), Cond.methodLink RX3 104 yX3_leastJitter, Cond.privateMethod yX3_leastJitter, Cond.instanceMethod yX3_leastJitter, Cond.code yX3_leastJitter cX3_leastJitter 5 (some .long), Cond.methodLink RX5 147 yX3_isMajority, Cond.instanceMethod yX3_isMajority, Cond.selects RX3 yX3_isMajority yX3_isMajority, Cond.code yX3_isMajority cX3_isMajority 1 (some .boolean), Cond.methodLink RX3 65 yX3_agreed, Cond.instanceMethod yX3_agreed]
def Q3_9 : List Cond := [Cond.selects RX3 yX3_agreed yX3_agreed, Cond.code yX3_agreed cX3_agreed 1 (some .int), Cond.methodLink RL 132 yL_synchronizes, Cond.static yL_synchronizes, Cond.codeWith yL_synchronizes cL_synchronizes 2 (some .int) [(0, 4, 5, 22)], Cond.methodLink RL 77 yX5_synchronize, Cond.instanceMethod yX5_synchronize, Cond.selects RX5 yX5_synchronize yX5_synchronize, Cond.code yX5_synchronize cX5_synchronize 4 (some .int), Cond.methodLink RX5 166 yX3_weightedOffset, Cond.instanceMethod yX3_weightedOffset, Cond.selects RX3 yX3_weightedOffset yX3_weightedOffset, Cond.code yX3_weightedOffset cX3_weightedOffset 6 (some .long), Cond.methodLink RX3 107 yX3_weight, Cond.privateMethod yX3_weight, Cond.instanceMethod yX3_weight]
def Q3_10 : List Cond := [Cond.code yX3_weight cX3_weight 4 (some .long), Cond.constantLong RX3 114 (1000000), Cond.methodLink RX3 116 Lib.MathLoose.max_long.x, Cond.methodLink RX3 110 yJ9_floorDiv_f86c9, Cond.methodLink RX5 172 yX5_correctRate, Cond.privateMethod yX5_correctRate, Cond.instanceMethod yX5_correctRate, Cond.code yX5_correctRate cX5_correctRate 7 none, Cond.constantLong RX5 244 (1000000), Cond.constantLong RX5 246 (4), Cond.methodLink RX5 248 yX1_addCorrection, Cond.instanceMethod yX1_addCorrection, Cond.selects RX1 yX1_addCorrection yX1_addCorrection, Cond.code yX1_addCorrection cX1_addCorrection 5 none, Cond.constantLong RX1 41 (-500), Cond.methodLink RX5 176 yX5_correctTime]
def Q3_11 : List Cond := [Cond.privateMethod yX5_correctTime, Cond.instanceMethod yX5_correctTime, Cond.code yX5_correctTime cX5_correctTime 3 (some .int), Cond.constantLong RX5 251 (128000), Cond.methodLink RX5 253 yX1_step, Cond.instanceMethod yX1_step, Cond.selects RX1 yX1_step yX1_step, Cond.code yX1_step cX1_step 3 none, Cond.methodLink RX5 256 yX1_slew, Cond.instanceMethod yX1_slew, Cond.selects RX1 yX1_slew yX1_slew, Cond.code yX1_slew cX1_slew 3 none, Cond.methodLink RX5 180 yX5_takeStratumOfPeer, Cond.privateMethod yX5_takeStratumOfPeer, Cond.instanceMethod yX5_takeStratumOfPeer, Cond.code yX5_takeStratumOfPeer cX5_takeStratumOfPeer 2 none]
def Q3_12 : List Cond := [Cond.methodLink RX5 169 yX3_preferred, Cond.instanceMethod yX3_preferred, Cond.selects RX3 yX3_preferred yX3_preferred, Cond.code yX3_preferred cX3_preferred 3 (some .int), Cond.methodLink RX3 119 yX3_isBetter, Cond.privateMethod yX3_isBetter, Cond.instanceMethod yX3_isBetter, Cond.code yX3_isBetter cX3_isBetter 3 (some .boolean), Cond.methodLink RX5 259 yX4_ownStratum, Cond.methodLink RX5 183 yX5_forgetSamples, Cond.privateMethod yX5_forgetSamples, Cond.instanceMethod yX5_forgetSamples, Cond.code yX5_forgetSamples cX5_forgetSamples 3 none, Cond.methodLink RX5 262 yX4_forget, Cond.methodLink RL 136 yX5_agreement, Cond.instanceMethod yX5_agreement]
def Q3_13 : List Cond := [Cond.selects RX5 yX5_agreement yX5_agreement, Cond.code yX5_agreement cX5_agreement 1 (some .int), Cond.methodLink RX5 144 yX3_agreed, Cond.methodLink RL 139 yL_low, Cond.static yL_low, Cond.codeWith yL_low cL_low 2 (some .long) [(0, 4, 5, 22)], Cond.methodLink RL 67 yX5_low, Cond.instanceMethod yX5_low, Cond.selects RX5 yX5_low yX5_low, Cond.code yX5_low cX5_low 1 (some .long), Cond.methodLink RX5 154 yX5_selectFromSome, Cond.privateMethod yX5_selectFromSome, Cond.instanceMethod yX5_selectFromSome, Cond.code yX5_selectFromSome cX5_selectFromSome 1 none, Cond.methodLink RX5 241 yX3_isEmpty, Cond.instanceMethod yX3_isEmpty]
def Q3_14 : List Cond := [Cond.selects RX3 yX3_isEmpty yX3_isEmpty, Cond.code yX3_isEmpty cX3_isEmpty 1 (some .boolean), Cond.methodLink RX5 157 yX3_lowEnd, Cond.instanceMethod yX3_lowEnd, Cond.selects RX3 yX3_lowEnd yX3_lowEnd, Cond.code yX3_lowEnd cX3_lowEnd 1 (some .long), Cond.methodLink RL 142 yL_high, Cond.static yL_high, Cond.codeWith yL_high cL_high 2 (some .long) [(0, 4, 5, 22)], Cond.methodLink RL 71 yX5_high, Cond.instanceMethod yX5_high, Cond.selects RX5 yX5_high yX5_high, Cond.code yX5_high cX5_high 1 (some .long), Cond.methodLink RX5 160 yX3_highEnd, Cond.instanceMethod yX3_highEnd, Cond.selects RX3 yX3_highEnd yX3_highEnd]
set_option maxRecDepth 100000 in
theorem Qe3 : tables_1_3 = Q3_0 ++ (Q3_1 ++ (Q3_2 ++ (Q3_3 ++ (Q3_4 ++ (Q3_5 ++ (Q3_6 ++ (Q3_7 ++ (Q3_8 ++ (Q3_9 ++ (Q3_10 ++ (Q3_11 ++ (Q3_12 ++ (Q3_13 ++ (Q3_14)))))))))))))) := rfl
theorem Q3_0i {w : Cond} (h : w ∈ Q3_0) : w ∈ lw_tbl := List.mem_append_right _ (List.mem_append_right _ (List.mem_append_right _ (List.mem_append_left _ (by rw [Qe3]; exact List.mem_append_left _ h))))
theorem Q3_1i {w : Cond} (h : w ∈ Q3_1) : w ∈ lw_tbl := List.mem_append_right _ (List.mem_append_right _ (List.mem_append_right _ (List.mem_append_left _ (by rw [Qe3]; exact List.mem_append_right _ (List.mem_append_left _ h)))))
theorem Q3_2i {w : Cond} (h : w ∈ Q3_2) : w ∈ lw_tbl := List.mem_append_right _ (List.mem_append_right _ (List.mem_append_right _ (List.mem_append_left _ (by rw [Qe3]; exact List.mem_append_right _ (List.mem_append_right _ (List.mem_append_left _ h))))))
theorem Q3_3i {w : Cond} (h : w ∈ Q3_3) : w ∈ lw_tbl := List.mem_append_right _ (List.mem_append_right _ (List.mem_append_right _ (List.mem_append_left _ (by rw [Qe3]; exact List.mem_append_right _ (List.mem_append_right _ (List.mem_append_right _ (List.mem_append_left _ h)))))))
theorem Q3_4i {w : Cond} (h : w ∈ Q3_4) : w ∈ lw_tbl := List.mem_append_right _ (List.mem_append_right _ (List.mem_append_right _ (List.mem_append_left _ (by rw [Qe3]; exact List.mem_append_right _ (List.mem_append_right _ (List.mem_append_right _ (List.mem_append_right _ (List.mem_append_left _ h))))))))
theorem Q3_5i {w : Cond} (h : w ∈ Q3_5) : w ∈ lw_tbl := List.mem_append_right _ (List.mem_append_right _ (List.mem_append_right _ (List.mem_append_left _ (by rw [Qe3]; exact List.mem_append_right _ (List.mem_append_right _ (List.mem_append_right _ (List.mem_append_right _ (List.mem_append_right _ (List.mem_append_left _ h)))))))))
theorem Q3_6i {w : Cond} (h : w ∈ Q3_6) : w ∈ lw_tbl := List.mem_append_right _ (List.mem_append_right _ (List.mem_append_right _ (List.mem_append_left _ (by rw [Qe3]; exact List.mem_append_right _ (List.mem_append_right _ (List.mem_append_right _ (List.mem_append_right _ (List.mem_append_right _ (List.mem_append_right _ (List.mem_append_left _ h))))))))))
theorem Q3_7i {w : Cond} (h : w ∈ Q3_7) : w ∈ lw_tbl := List.mem_append_right _ (List.mem_append_right _ (List.mem_append_right _ (List.mem_append_left _ (by rw [Qe3]; exact List.mem_append_right _ (List.mem_append_right _ (List.mem_append_right _ (List.mem_append_right _ (List.mem_append_right _ (List.mem_append_right _ (List.mem_append_right _ (List.mem_append_left _ h)))))))))))
theorem Q3_8i {w : Cond} (h : w ∈ Q3_8) : w ∈ lw_tbl := List.mem_append_right _ (List.mem_append_right _ (List.mem_append_right _ (List.mem_append_left _ (by rw [Qe3]; exact List.mem_append_right _ (List.mem_append_right _ (List.mem_append_right _ (List.mem_append_right _ (List.mem_append_right _ (List.mem_append_right _ (List.mem_append_right _ (List.mem_append_right _ (List.mem_append_left _ h))))))))))))
theorem Q3_9i {w : Cond} (h : w ∈ Q3_9) : w ∈ lw_tbl := List.mem_append_right _ (List.mem_append_right _ (List.mem_append_right _ (List.mem_append_left _ (by rw [Qe3]; exact List.mem_append_right _ (List.mem_append_right _ (List.mem_append_right _ (List.mem_append_right _ (List.mem_append_right _ (List.mem_append_right _ (List.mem_append_right _ (List.mem_append_right _ (List.mem_append_right _ (List.mem_append_left _ h)))))))))))))
theorem Q3_10i {w : Cond} (h : w ∈ Q3_10) : w ∈ lw_tbl := List.mem_append_right _ (List.mem_append_right _ (List.mem_append_right _ (List.mem_append_left _ (by rw [Qe3]; exact List.mem_append_right _ (List.mem_append_right _ (List.mem_append_right _ (List.mem_append_right _ (List.mem_append_right _ (List.mem_append_right _ (List.mem_append_right _ (List.mem_append_right _ (List.mem_append_right _ (List.mem_append_right _ (List.mem_append_left _ h))))))))))))))
theorem Q3_11i {w : Cond} (h : w ∈ Q3_11) : w ∈ lw_tbl := List.mem_append_right _ (List.mem_append_right _ (List.mem_append_right _ (List.mem_append_left _ (by rw [Qe3]; exact List.mem_append_right _ (List.mem_append_right _ (List.mem_append_right _ (List.mem_append_right _ (List.mem_append_right _ (List.mem_append_right _ (List.mem_append_right _ (List.mem_append_right _ (List.mem_append_right _ (List.mem_append_right _ (List.mem_append_right _ (List.mem_append_left _ h)))))))))))))))
theorem Q3_12i {w : Cond} (h : w ∈ Q3_12) : w ∈ lw_tbl := List.mem_append_right _ (List.mem_append_right _ (List.mem_append_right _ (List.mem_append_left _ (by rw [Qe3]; exact List.mem_append_right _ (List.mem_append_right _ (List.mem_append_right _ (List.mem_append_right _ (List.mem_append_right _ (List.mem_append_right _ (List.mem_append_right _ (List.mem_append_right _ (List.mem_append_right _ (List.mem_append_right _ (List.mem_append_right _ (List.mem_append_right _ (List.mem_append_left _ h))))))))))))))))
theorem Q3_13i {w : Cond} (h : w ∈ Q3_13) : w ∈ lw_tbl := List.mem_append_right _ (List.mem_append_right _ (List.mem_append_right _ (List.mem_append_left _ (by rw [Qe3]; exact List.mem_append_right _ (List.mem_append_right _ (List.mem_append_right _ (List.mem_append_right _ (List.mem_append_right _ (List.mem_append_right _ (List.mem_append_right _ (List.mem_append_right _ (List.mem_append_right _ (List.mem_append_right _ (List.mem_append_right _ (List.mem_append_right _ (List.mem_append_right _ (List.mem_append_left _ h)))))))))))))))))
theorem Q3_14i {w : Cond} (h : w ∈ Q3_14) : w ∈ lw_tbl := List.mem_append_right _ (List.mem_append_right _ (List.mem_append_right _ (List.mem_append_left _ (by rw [Qe3]; exact List.mem_append_right _ (List.mem_append_right _ (List.mem_append_right _ (List.mem_append_right _ (List.mem_append_right _ (List.mem_append_right _ (List.mem_append_right _ (List.mem_append_right _ (List.mem_append_right _ (List.mem_append_right _ (List.mem_append_right _ (List.mem_append_right _ (List.mem_append_right _ (List.mem_append_right _ (h))))))))))))))))))
def Q4_0 : List Cond := [Cond.code yX3_highEnd cX3_highEnd 1 (some .long), Cond.methodLink RL 144 yL_combined, Cond.static yL_combined, Cond.codeWith yL_combined cL_combined 2 (some .long) [(0, 4, 5, 22)], Cond.methodLink RL 74 yX5_combinedOffset, Cond.instanceMethod yX5_combinedOffset, Cond.selects RX5 yX5_combinedOffset yX5_combinedOffset, Cond.code yX5_combinedOffset cX5_combinedOffset 1 (some .long), Cond.constant RL 147 (1000001), Cond.constant RL 148 (500001), Cond.methodLink RL 208 yL_alike, Cond.static yL_alike, Cond.code yL_alike cL_alike 4 (some .boolean), Cond.methodLink RL 149 yX5_trueTime, Cond.instanceMethod yX5_trueTime, Cond.selects RX5 yX5_trueTime yX5_trueTime]
def Q4_1 : List Cond := [Cond.code yX5_trueTime cX5_trueTime 1 (some .long), Cond.methodLink RL 158 yX5_pendingSlew, Cond.instanceMethod yX5_pendingSlew, Cond.selects RX5 yX5_pendingSlew yX5_pendingSlew, Cond.code yX5_pendingSlew cX5_pendingSlew 1 (some .long), Cond.methodLink RX5 72 yX1_pendingMicros, Cond.instanceMethod yX1_pendingMicros, Cond.selects RX1 yX1_pendingMicros yX1_pendingMicros, Cond.code yX1_pendingMicros cX1_pendingMicros 1 (some .long), Cond.methodLink RL 161 yX5_correction, Cond.instanceMethod yX5_correction, Cond.selects RX5 yX5_correction yX5_correction, Cond.code yX5_correction cX5_correction 1 (some .int), Cond.methodLink RX5 75 yX1_presentCorrection, Cond.instanceMethod yX1_presentCorrection, Cond.selects RX1 yX1_presentCorrection yX1_presentCorrection]
def Q4_2 : List Cond := [Cond.code yX1_presentCorrection cX1_presentCorrection 1 (some .int), Cond.methodLink RL 164 yX5_agreeing, Cond.instanceMethod yX5_agreeing, Cond.selects RX5 yX5_agreeing yX5_agreeing, Cond.code yX5_agreeing cX5_agreeing 1 (some .int), Cond.methodLink RX5 151 yX3_agreeingBits, Cond.instanceMethod yX3_agreeingBits, Cond.selects RX3 yX3_agreeingBits yX3_agreeingBits, Cond.code yX3_agreeingBits cX3_agreeingBits 1 (some .int), Cond.methodLink RL 167 yX5_survivors, Cond.instanceMethod yX5_survivors, Cond.selects RX5 yX5_survivors yX5_survivors, Cond.code yX5_survivors cX5_survivors 1 (some .int), Cond.methodLink RX5 163 yX3_survivorBits, Cond.instanceMethod yX3_survivorBits, Cond.selects RX3 yX3_survivorBits yX3_survivorBits]
def Q4_3 : List Cond := [Cond.code yX3_survivorBits cX3_survivorBits 1 (some .int), Cond.methodLink RL 170 yX5_peer, Cond.instanceMethod yX5_peer, Cond.selects RX5 yX5_peer yX5_peer, Cond.code yX5_peer cX5_peer 1 (some .int), Cond.methodLink RL 173 yX5_stratum, Cond.instanceMethod yX5_stratum, Cond.selects RX5 yX5_stratum yX5_stratum, Cond.code yX5_stratum cX5_stratum 1 (some .int), Cond.methodLink RL 176 yX5_steps, Cond.instanceMethod yX5_steps, Cond.selects RX5 yX5_steps yX5_steps, Cond.code yX5_steps cX5_steps 1 (some .int), Cond.methodLink RL 179 yX5_synchronizations, Cond.instanceMethod yX5_synchronizations, Cond.selects RX5 yX5_synchronizations yX5_synchronizations]
def Q4_4 : List Cond := [Cond.code yX5_synchronizations cX5_synchronizations 1 (some .int), Cond.methodLink RL 212 yL_holds, Cond.static yL_holds, Cond.code yL_holds cL_holds 14 (some .boolean), Cond.constantLong RL 182 (9000000000000000), Cond.constantLong RL 184 (-9000000000000000), Cond.methodLink RL 204 yL_acts, Cond.static yL_acts, Cond.code yL_acts cL_acts 11 (some .boolean), Cond.constant RL 186 (400001), Cond.constant RL 187 (200000), Cond.constant RL 188 (100000), Cond.constant RL 189 (900000000), Cond.methodLink RL 216 yL_slews, Cond.static yL_slews, Cond.code yL_slews cL_slews 14 (some .boolean)]
def Q4_5 : List Cond := [Cond.constantLong RL 191 (128000), Cond.constant RL 193 (1000000000), Cond.constant RL 198 (2000001), Cond.constant RL 199 (1000000), Cond.sameMethod "java/lang/Throwable" "java/lang/Throwable" "fillInStackTrace" "(I)Ljava/lang/Throwable;"]
set_option maxRecDepth 100000 in
theorem Qe4 : tables_1_4 = Q4_0 ++ (Q4_1 ++ (Q4_2 ++ (Q4_3 ++ (Q4_4 ++ (Q4_5))))) := rfl
theorem Q4_0i {w : Cond} (h : w ∈ Q4_0) : w ∈ lw_tbl := List.mem_append_right _ (List.mem_append_right _ (List.mem_append_right _ (List.mem_append_right _ (by rw [Qe4]; exact List.mem_append_left _ h))))
theorem Q4_1i {w : Cond} (h : w ∈ Q4_1) : w ∈ lw_tbl := List.mem_append_right _ (List.mem_append_right _ (List.mem_append_right _ (List.mem_append_right _ (by rw [Qe4]; exact List.mem_append_right _ (List.mem_append_left _ h)))))
theorem Q4_2i {w : Cond} (h : w ∈ Q4_2) : w ∈ lw_tbl := List.mem_append_right _ (List.mem_append_right _ (List.mem_append_right _ (List.mem_append_right _ (by rw [Qe4]; exact List.mem_append_right _ (List.mem_append_right _ (List.mem_append_left _ h))))))
theorem Q4_3i {w : Cond} (h : w ∈ Q4_3) : w ∈ lw_tbl := List.mem_append_right _ (List.mem_append_right _ (List.mem_append_right _ (List.mem_append_right _ (by rw [Qe4]; exact List.mem_append_right _ (List.mem_append_right _ (List.mem_append_right _ (List.mem_append_left _ h)))))))
theorem Q4_4i {w : Cond} (h : w ∈ Q4_4) : w ∈ lw_tbl := List.mem_append_right _ (List.mem_append_right _ (List.mem_append_right _ (List.mem_append_right _ (by rw [Qe4]; exact List.mem_append_right _ (List.mem_append_right _ (List.mem_append_right _ (List.mem_append_right _ (List.mem_append_left _ h))))))))
theorem Q4_5i {w : Cond} (h : w ∈ Q4_5) : w ∈ lw_tbl := List.mem_append_right _ (List.mem_append_right _ (List.mem_append_right _ (List.mem_append_right _ (by rw [Qe4]; exact List.mem_append_right _ (List.mem_append_right _ (List.mem_append_right _ (List.mem_append_right _ (List.mem_append_right _ (h)))))))))
theorem q_0 : Cond.selects RX5 yX5_begin yX5_begin ∈ AG := List.mem_filter.mpr ⟨Q0_0i (List.mem_of_getElem? (i := 0) rfl), rfl⟩
theorem q_1 : Cond.selects "java/lang/Throwable" ⟨"java/lang/Throwable", "fillInStackTrace", "(I)Ljava/lang/Throwable;"⟩ ⟨"java/lang/Throwable", "fillInStackTrace", "(I)Ljava/lang/Throwable;"⟩ ∈ AG := List.mem_filter.mpr ⟨Q0_0i (List.mem_of_getElem? (i := 1) rfl), rfl⟩
theorem q_2 : Cond.selects RX5 yX5_isBeyondLastTrueTime yX5_isBeyondLastTrueTime ∈ AG := List.mem_filter.mpr ⟨Q0_0i (List.mem_of_getElem? (i := 2) rfl), rfl⟩
theorem q_3 : Cond.selects RX5 yX5_elapse yX5_elapse ∈ AG := List.mem_filter.mpr ⟨Q0_0i (List.mem_of_getElem? (i := 3) rfl), rfl⟩
theorem q_4 : Cond.selects RX5 yX5_roomOrNull yX5_roomOrNull ∈ AG := List.mem_filter.mpr ⟨Q0_0i (List.mem_of_getElem? (i := 4) rfl), rfl⟩
theorem q_5 : Cond.selects RX5 yX5_knownServer yX5_knownServer ∈ AG := List.mem_filter.mpr ⟨Q0_0i (List.mem_of_getElem? (i := 5) rfl), rfl⟩
theorem q_6 : Cond.selects RX5 yX5_serverOrNull yX5_serverOrNull ∈ AG := List.mem_filter.mpr ⟨Q0_0i (List.mem_of_getElem? (i := 6) rfl), rfl⟩
theorem q_7 : Cond.selects RX5 yX5_takeSample yX5_takeSample ∈ AG := List.mem_filter.mpr ⟨Q0_0i (List.mem_of_getElem? (i := 7) rfl), rfl⟩
theorem q_8 : Cond.selects RX4 yX4_leastDelay yX4_leastDelay ∈ AG := List.mem_filter.mpr ⟨Q0_0i (List.mem_of_getElem? (i := 8) rfl), rfl⟩
theorem q_9 : Cond.selects RX5 yX5_heardServer yX5_heardServer ∈ AG := List.mem_filter.mpr ⟨Q0_0i (List.mem_of_getElem? (i := 9) rfl), rfl⟩
theorem q_10 : Cond.selects RX5 yX5_select yX5_select ∈ AG := List.mem_filter.mpr ⟨Q0_0i (List.mem_of_getElem? (i := 10) rfl), rfl⟩
theorem q_11 : Cond.selects RX3 yX3_tryLowEnd yX3_tryLowEnd ∈ AG := List.mem_filter.mpr ⟨Q0_0i (List.mem_of_getElem? (i := 11) rfl), rfl⟩
theorem q_12 : Cond.selects RX3 yX3_intervalsWith yX3_intervalsWith ∈ AG := List.mem_filter.mpr ⟨Q0_0i (List.mem_of_getElem? (i := 12) rfl), rfl⟩
theorem q_13 : Cond.selects RX3 yX3_leastUpperEnd yX3_leastUpperEnd ∈ AG := List.mem_filter.mpr ⟨Q0_0i (List.mem_of_getElem? (i := 13) rfl), rfl⟩
theorem q_14 : Cond.selects RX3 yX3_widestSpread yX3_widestSpread ∈ AG := List.mem_filter.mpr ⟨Q0_0i (List.mem_of_getElem? (i := 14) rfl), rfl⟩
theorem q_15 : Cond.selects RX3 yX3_spread yX3_spread ∈ AG := List.mem_filter.mpr ⟨Q0_0i (List.mem_of_getElem? (i := 15) rfl), rfl⟩
theorem q_16 : Cond.selects RX3 yX3_leastJitter yX3_leastJitter ∈ AG := List.mem_filter.mpr ⟨Q0_1i (List.mem_of_getElem? (i := 0) rfl), rfl⟩
theorem q_17 : Cond.selects RX3 yX3_weight yX3_weight ∈ AG := List.mem_filter.mpr ⟨Q0_1i (List.mem_of_getElem? (i := 1) rfl), rfl⟩
theorem q_18 : Cond.selects RX5 yX5_correctRate yX5_correctRate ∈ AG := List.mem_filter.mpr ⟨Q0_1i (List.mem_of_getElem? (i := 2) rfl), rfl⟩
theorem q_19 : Cond.selects RX5 yX5_correctTime yX5_correctTime ∈ AG := List.mem_filter.mpr ⟨Q0_1i (List.mem_of_getElem? (i := 3) rfl), rfl⟩
theorem q_20 : Cond.selects RX5 yX5_takeStratumOfPeer yX5_takeStratumOfPeer ∈ AG := List.mem_filter.mpr ⟨Q0_1i (List.mem_of_getElem? (i := 4) rfl), rfl⟩
theorem q_21 : Cond.selects RX3 yX3_isBetter yX3_isBetter ∈ AG := List.mem_filter.mpr ⟨Q0_1i (List.mem_of_getElem? (i := 5) rfl), rfl⟩
theorem q_22 : Cond.selects RX5 yX5_forgetSamples yX5_forgetSamples ∈ AG := List.mem_filter.mpr ⟨Q0_1i (List.mem_of_getElem? (i := 6) rfl), rfl⟩
theorem q_23 : Cond.selects RX5 yX5_selectFromSome yX5_selectFromSome ∈ AG := List.mem_filter.mpr ⟨Q0_1i (List.mem_of_getElem? (i := 7) rfl), rfl⟩
theorem q_24 : Cond.initialized RL ∈ AG := List.mem_filter.mpr ⟨Q1_0i (List.mem_of_getElem? (i := 0) rfl), rfl⟩
theorem q_25 : Cond.initialized RX5 ∈ AG := List.mem_filter.mpr ⟨Q1_0i (List.mem_of_getElem? (i := 1) rfl), rfl⟩
theorem q_26 : Cond.initialized RX1 ∈ AG := List.mem_filter.mpr ⟨Q1_0i (List.mem_of_getElem? (i := 2) rfl), rfl⟩
theorem q_27 : Cond.initialized RX0 ∈ AG := List.mem_filter.mpr ⟨Q1_0i (List.mem_of_getElem? (i := 3) rfl), rfl⟩
theorem q_28 : Cond.initialized RX3 ∈ AG := List.mem_filter.mpr ⟨Q1_0i (List.mem_of_getElem? (i := 4) rfl), rfl⟩
theorem q_29 : Cond.initialized RX2 ∈ AG := List.mem_filter.mpr ⟨Q1_0i (List.mem_of_getElem? (i := 5) rfl), rfl⟩
theorem q_30 : Cond.initialized RX4 ∈ AG := List.mem_filter.mpr ⟨Q1_0i (List.mem_of_getElem? (i := 6) rfl), rfl⟩
theorem q_31 : Cond.initialized "java/lang/Throwable" ∈ AG := List.mem_filter.mpr ⟨Q1_0i (List.mem_of_getElem? (i := 7) rfl), rfl⟩
theorem q_32 : Cond.initialized "java/lang/Exception" ∈ AG := List.mem_filter.mpr ⟨Q1_0i (List.mem_of_getElem? (i := 8) rfl), rfl⟩
theorem q_33 : Cond.initialized "java/lang/RuntimeException" ∈ AG := List.mem_filter.mpr ⟨Q1_0i (List.mem_of_getElem? (i := 9) rfl), rfl⟩
theorem q_34 : Cond.initialized "java/lang/IllegalArgumentException" ∈ AG := List.mem_filter.mpr ⟨Q1_0i (List.mem_of_getElem? (i := 10) rfl), rfl⟩
theorem q_35 : Cond.initialized RJ9 ∈ AG := List.mem_filter.mpr ⟨Q1_0i (List.mem_of_getElem? (i := 11) rfl), rfl⟩
theorem q_36 : Cond.initialized "java/lang/IllegalStateException" ∈ AG := List.mem_filter.mpr ⟨Q1_0i (List.mem_of_getElem? (i := 12) rfl), rfl⟩
theorem q_37 : Cond.initialized "java/lang/IndexOutOfBoundsException" ∈ AG := List.mem_filter.mpr ⟨Q1_0i (List.mem_of_getElem? (i := 13) rfl), rfl⟩
theorem q_38 : Cond.initialized RJ6 ∈ AG := List.mem_filter.mpr ⟨Q1_0i (List.mem_of_getElem? (i := 14) rfl), rfl⟩
theorem q_39 : Cond.classLink RL 8 RX5 ∈ AG := List.mem_filter.mpr ⟨Q1_0i (List.mem_of_getElem? (i := 15) rfl), rfl⟩
theorem q_40 : Cond.instantiable RX5 10 ∈ AG := List.mem_filter.mpr ⟨Q1_1i (List.mem_of_getElem? (i := 0) rfl), rfl⟩
theorem q_41 : Cond.methodLink RL 190 yX5_init ∈ AG := List.mem_filter.mpr ⟨Q1_1i (List.mem_of_getElem? (i := 1) rfl), rfl⟩
theorem q_42 : Cond.instanceMethod yX5_init ∈ AG := List.mem_filter.mpr ⟨Q1_1i (List.mem_of_getElem? (i := 2) rfl), rfl⟩
theorem q_43 : Cond.code yX5_init cX5_init 2 none ∈ AG := List.mem_filter.mpr ⟨Q1_1i (List.mem_of_getElem? (i := 3) rfl), rfl⟩
theorem q_44 : Cond.methodLink RX5 1 objectInit ∈ AG := List.mem_filter.mpr ⟨Q1_1i (List.mem_of_getElem? (i := 4) rfl), rfl⟩
theorem q_45 : Cond.instanceMethod objectInit ∈ AG := List.mem_filter.mpr ⟨Q1_1i (List.mem_of_getElem? (i := 5) rfl), rfl⟩
theorem q_46 : Cond.code objectInit ⟨#[0xb1]⟩ 1 none ∈ AG := List.mem_filter.mpr ⟨Q1_1i (List.mem_of_getElem? (i := 6) rfl), rfl⟩
theorem q_47 : Cond.classLink RX5 7 RX1 ∈ AG := List.mem_filter.mpr ⟨Q1_1i (List.mem_of_getElem? (i := 7) rfl), rfl⟩
theorem q_48 : Cond.instantiable RX1 4 ∈ AG := List.mem_filter.mpr ⟨Q1_1i (List.mem_of_getElem? (i := 8) rfl), rfl⟩
theorem q_50 : Cond.instanceMethod yX1_init ∈ AG := List.mem_filter.mpr ⟨Q1_1i (List.mem_of_getElem? (i := 10) rfl), rfl⟩
theorem q_51 : Cond.code yX1_init cX1_init 1 none ∈ AG := List.mem_filter.mpr ⟨Q1_1i (List.mem_of_getElem? (i := 11) rfl), rfl⟩
theorem q_52 : Cond.methodLink RX1 3 objectInit ∈ AG := List.mem_filter.mpr ⟨Q1_1i (List.mem_of_getElem? (i := 12) rfl), rfl⟩
theorem q_53 : Cond.fieldLink RX1 11 "Clockhouse$Oscillator" "picos" "J" ∈ AG := List.mem_filter.mpr ⟨Q1_1i (List.mem_of_getElem? (i := 13) rfl), rfl⟩
theorem q_54 : Cond.fieldLink RX1 17 "Clockhouse$Oscillator" "pendingPicos" "J" ∈ AG := List.mem_filter.mpr ⟨Q1_1i (List.mem_of_getElem? (i := 14) rfl), rfl⟩
theorem q_55 : Cond.fieldLink RX1 20 "Clockhouse$Oscillator" "driftRate" "I" ∈ AG := List.mem_filter.mpr ⟨Q1_1i (List.mem_of_getElem? (i := 15) rfl), rfl⟩
theorem q_56 : Cond.fieldLink RX1 24 "Clockhouse$Oscillator" "correctionRate" "I" ∈ AG := List.mem_filter.mpr ⟨Q1_2i (List.mem_of_getElem? (i := 0) rfl), rfl⟩
theorem q_66 : Cond.classLink RX5 16 RX0 ∈ AG := List.mem_filter.mpr ⟨Q1_2i (List.mem_of_getElem? (i := 10) rfl), rfl⟩
theorem q_67 : Cond.instantiable RX0 2 ∈ AG := List.mem_filter.mpr ⟨Q1_2i (List.mem_of_getElem? (i := 11) rfl), rfl⟩
theorem q_69 : Cond.instanceMethod yX0_init ∈ AG := List.mem_filter.mpr ⟨Q1_2i (List.mem_of_getElem? (i := 13) rfl), rfl⟩
theorem q_70 : Cond.code yX0_init cX0_init 1 none ∈ AG := List.mem_filter.mpr ⟨Q1_2i (List.mem_of_getElem? (i := 14) rfl), rfl⟩
theorem q_71 : Cond.methodLink RX0 1 objectInit ∈ AG := List.mem_filter.mpr ⟨Q1_2i (List.mem_of_getElem? (i := 15) rfl), rfl⟩
theorem q_72 : Cond.fieldLink RX0 13 "Clockhouse$LeapSeconds" "inserted" "I" ∈ AG := List.mem_filter.mpr ⟨Q1_3i (List.mem_of_getElem? (i := 0) rfl), rfl⟩
theorem q_73 : Cond.fieldLink RX0 17 "Clockhouse$LeapSeconds" "deleted" "I" ∈ AG := List.mem_filter.mpr ⟨Q1_3i (List.mem_of_getElem? (i := 1) rfl), rfl⟩
theorem q_79 : Cond.classLink RX5 23 RX4 ∈ AG := List.mem_filter.mpr ⟨Q1_3i (List.mem_of_getElem? (i := 7) rfl), rfl⟩
theorem q_81 : Cond.classLink RX5 29 RX3 ∈ AG := List.mem_filter.mpr ⟨Q1_3i (List.mem_of_getElem? (i := 9) rfl), rfl⟩
theorem q_82 : Cond.instantiable RX3 9 ∈ AG := List.mem_filter.mpr ⟨Q1_3i (List.mem_of_getElem? (i := 10) rfl), rfl⟩
theorem q_84 : Cond.instanceMethod yX3_init ∈ AG := List.mem_filter.mpr ⟨Q1_3i (List.mem_of_getElem? (i := 12) rfl), rfl⟩
theorem q_85 : Cond.code yX3_init cX3_init 1 none ∈ AG := List.mem_filter.mpr ⟨Q1_3i (List.mem_of_getElem? (i := 13) rfl), rfl⟩
theorem q_86 : Cond.methodLink RX3 3 objectInit ∈ AG := List.mem_filter.mpr ⟨Q1_3i (List.mem_of_getElem? (i := 14) rfl), rfl⟩
theorem q_87 : Cond.classLink RX3 9 RX2 ∈ AG := List.mem_filter.mpr ⟨Q1_3i (List.mem_of_getElem? (i := 15) rfl), rfl⟩
theorem q_88 : Cond.instantiable RX2 1 ∈ AG := List.mem_filter.mpr ⟨Q1_4i (List.mem_of_getElem? (i := 0) rfl), rfl⟩
theorem q_90 : Cond.instanceMethod yX2_init ∈ AG := List.mem_filter.mpr ⟨Q1_4i (List.mem_of_getElem? (i := 2) rfl), rfl⟩
theorem q_91 : Cond.code yX2_init cX2_init 1 none ∈ AG := List.mem_filter.mpr ⟨Q1_4i (List.mem_of_getElem? (i := 3) rfl), rfl⟩
theorem q_92 : Cond.methodLink RX2 1 objectInit ∈ AG := List.mem_filter.mpr ⟨Q1_4i (List.mem_of_getElem? (i := 4) rfl), rfl⟩
theorem q_93 : Cond.fieldLink RX2 9 "Clockhouse$Row" "cells" "[J" ∈ AG := List.mem_filter.mpr ⟨Q1_4i (List.mem_of_getElem? (i := 5) rfl), rfl⟩
theorem q_97 : Cond.arrayClass .long ∈ AG := List.mem_filter.mpr ⟨Q1_4i (List.mem_of_getElem? (i := 9) rfl), rfl⟩
theorem q_98 : Cond.fieldLink RX3 12 "Clockhouse$Selection" "offsets" "LClockhouse$Row;" ∈ AG := List.mem_filter.mpr ⟨Q1_4i (List.mem_of_getElem? (i := 10) rfl), rfl⟩
theorem q_99 : Cond.fieldLink RX3 18 "Clockhouse$Selection" "distances" "LClockhouse$Row;" ∈ AG := List.mem_filter.mpr ⟨Q1_4i (List.mem_of_getElem? (i := 11) rfl), rfl⟩
theorem q_100 : Cond.fieldLink RX3 21 "Clockhouse$Selection" "jitters" "LClockhouse$Row;" ∈ AG := List.mem_filter.mpr ⟨Q1_4i (List.mem_of_getElem? (i := 12) rfl), rfl⟩
theorem q_101 : Cond.fieldLink RX3 24 "Clockhouse$Selection" "strata" "LClockhouse$Row;" ∈ AG := List.mem_filter.mpr ⟨Q1_4i (List.mem_of_getElem? (i := 13) rfl), rfl⟩
theorem q_102 : Cond.fieldLink RX3 27 "Clockhouse$Selection" "candidateSet" "I" ∈ AG := List.mem_filter.mpr ⟨Q1_4i (List.mem_of_getElem? (i := 14) rfl), rfl⟩
theorem q_103 : Cond.fieldLink RX3 31 "Clockhouse$Selection" "agreeingSet" "I" ∈ AG := List.mem_filter.mpr ⟨Q1_4i (List.mem_of_getElem? (i := 15) rfl), rfl⟩
theorem q_104 : Cond.fieldLink RX3 34 "Clockhouse$Selection" "survivorSet" "I" ∈ AG := List.mem_filter.mpr ⟨Q1_5i (List.mem_of_getElem? (i := 0) rfl), rfl⟩
theorem q_105 : Cond.fieldLink RX3 37 "Clockhouse$Selection" "lowest" "J" ∈ AG := List.mem_filter.mpr ⟨Q1_5i (List.mem_of_getElem? (i := 1) rfl), rfl⟩
theorem q_106 : Cond.fieldLink RX3 41 "Clockhouse$Selection" "highest" "J" ∈ AG := List.mem_filter.mpr ⟨Q1_5i (List.mem_of_getElem? (i := 2) rfl), rfl⟩
theorem q_126 : Cond.instantiable RX4 9 ∈ AG := List.mem_filter.mpr ⟨Q1_6i (List.mem_of_getElem? (i := 6) rfl), rfl⟩
theorem q_128 : Cond.instanceMethod yX4_init ∈ AG := List.mem_filter.mpr ⟨Q1_6i (List.mem_of_getElem? (i := 8) rfl), rfl⟩
theorem q_129 : Cond.code yX4_init cX4_init 1 none ∈ AG := List.mem_filter.mpr ⟨Q1_6i (List.mem_of_getElem? (i := 9) rfl), rfl⟩
theorem q_130 : Cond.methodLink RX4 3 objectInit ∈ AG := List.mem_filter.mpr ⟨Q1_6i (List.mem_of_getElem? (i := 10) rfl), rfl⟩
theorem q_131 : Cond.classLink RX4 9 RX2 ∈ AG := List.mem_filter.mpr ⟨Q1_6i (List.mem_of_getElem? (i := 11) rfl), rfl⟩
theorem q_133 : Cond.fieldLink RX4 12 "Clockhouse$Server" "offsets" "LClockhouse$Row;" ∈ AG := List.mem_filter.mpr ⟨Q1_6i (List.mem_of_getElem? (i := 13) rfl), rfl⟩
theorem q_134 : Cond.fieldLink RX4 18 "Clockhouse$Server" "delays" "LClockhouse$Row;" ∈ AG := List.mem_filter.mpr ⟨Q1_6i (List.mem_of_getElem? (i := 14) rfl), rfl⟩
theorem q_135 : Cond.fieldLink RX4 21 "Clockhouse$Server" "times" "LClockhouse$Row;" ∈ AG := List.mem_filter.mpr ⟨Q1_6i (List.mem_of_getElem? (i := 15) rfl), rfl⟩
theorem q_136 : Cond.fieldLink RX4 41 "Clockhouse$Server" "count" "I" ∈ AG := List.mem_filter.mpr ⟨Q1_7i (List.mem_of_getElem? (i := 0) rfl), rfl⟩
theorem q_137 : Cond.fieldLink RX4 44 "Clockhouse$Server" "best" "I" ∈ AG := List.mem_filter.mpr ⟨Q1_7i (List.mem_of_getElem? (i := 1) rfl), rfl⟩
theorem q_138 : Cond.fieldLink RX4 24 "Clockhouse$Server" "level" "I" ∈ AG := List.mem_filter.mpr ⟨Q1_7i (List.mem_of_getElem? (i := 2) rfl), rfl⟩
theorem q_139 : Cond.fieldLink RX4 28 "Clockhouse$Server" "clockError" "I" ∈ AG := List.mem_filter.mpr ⟨Q1_7i (List.mem_of_getElem? (i := 3) rfl), rfl⟩
theorem q_140 : Cond.fieldLink RX4 31 "Clockhouse$Server" "rootDelay" "J" ∈ AG := List.mem_filter.mpr ⟨Q1_7i (List.mem_of_getElem? (i := 4) rfl), rfl⟩
theorem q_141 : Cond.fieldLink RX4 35 "Clockhouse$Server" "rootDispersion" "J" ∈ AG := List.mem_filter.mpr ⟨Q1_7i (List.mem_of_getElem? (i := 5) rfl), rfl⟩
theorem q_161 : Cond.methodLink RX5 37 yX5_begin ∈ AG := List.mem_filter.mpr ⟨Q1_8i (List.mem_of_getElem? (i := 9) rfl), rfl⟩
theorem q_163 : Cond.instanceMethod yX5_begin ∈ AG := List.mem_filter.mpr ⟨Q1_8i (List.mem_of_getElem? (i := 11) rfl), rfl⟩
theorem q_164 : Cond.code yX5_begin cX5_begin 2 none ∈ AG := List.mem_filter.mpr ⟨Q1_8i (List.mem_of_getElem? (i := 12) rfl), rfl⟩
theorem q_165 : Cond.methodLink RX5 199 yX1_begin ∈ AG := List.mem_filter.mpr ⟨Q1_8i (List.mem_of_getElem? (i := 13) rfl), rfl⟩
theorem q_166 : Cond.instanceMethod yX1_begin ∈ AG := List.mem_filter.mpr ⟨Q1_8i (List.mem_of_getElem? (i := 14) rfl), rfl⟩
theorem q_167 : Cond.selects RX1 yX1_begin yX1_begin ∈ AG := List.mem_filter.mpr ⟨Q1_8i (List.mem_of_getElem? (i := 15) rfl), rfl⟩
theorem q_168 : Cond.code yX1_begin cX1_begin 2 none ∈ AG := List.mem_filter.mpr ⟨Q1_9i (List.mem_of_getElem? (i := 0) rfl), rfl⟩
theorem q_169 : Cond.constantLong RX1 9 (1000000) ∈ AG := List.mem_filter.mpr ⟨Q1_9i (List.mem_of_getElem? (i := 1) rfl), rfl⟩
theorem q_170 : Cond.methodLink RX5 200 yX0_clear ∈ AG := List.mem_filter.mpr ⟨Q1_9i (List.mem_of_getElem? (i := 2) rfl), rfl⟩
theorem q_171 : Cond.instanceMethod yX0_clear ∈ AG := List.mem_filter.mpr ⟨Q1_9i (List.mem_of_getElem? (i := 3) rfl), rfl⟩
theorem q_172 : Cond.selects RX0 yX0_clear yX0_clear ∈ AG := List.mem_filter.mpr ⟨Q1_9i (List.mem_of_getElem? (i := 4) rfl), rfl⟩
theorem q_173 : Cond.code yX0_clear cX0_clear 1 none ∈ AG := List.mem_filter.mpr ⟨Q1_9i (List.mem_of_getElem? (i := 5) rfl), rfl⟩
theorem q_174 : Cond.fieldLink RX5 10 "Clockhouse" "oscillator" "LClockhouse$Oscillator;" ∈ AG := List.mem_filter.mpr ⟨Q1_9i (List.mem_of_getElem? (i := 6) rfl), rfl⟩
theorem q_175 : Cond.fieldLink RX5 19 "Clockhouse" "leapSeconds" "LClockhouse$LeapSeconds;" ∈ AG := List.mem_filter.mpr ⟨Q1_9i (List.mem_of_getElem? (i := 7) rfl), rfl⟩
theorem q_176 : Cond.fieldLink RX5 25 "Clockhouse" "rooms" "[LClockhouse$Server;" ∈ AG := List.mem_filter.mpr ⟨Q1_9i (List.mem_of_getElem? (i := 8) rfl), rfl⟩
theorem q_177 : Cond.fieldLink RX5 32 "Clockhouse" "selection" "LClockhouse$Selection;" ∈ AG := List.mem_filter.mpr ⟨Q1_9i (List.mem_of_getElem? (i := 9) rfl), rfl⟩
theorem q_178 : Cond.fieldLink RX5 99 "Clockhouse" "serverCount" "I" ∈ AG := List.mem_filter.mpr ⟨Q1_9i (List.mem_of_getElem? (i := 10) rfl), rfl⟩
theorem q_179 : Cond.fieldLink RX5 68 "Clockhouse" "truth" "J" ∈ AG := List.mem_filter.mpr ⟨Q1_9i (List.mem_of_getElem? (i := 11) rfl), rfl⟩
theorem q_180 : Cond.fieldLink RX5 192 "Clockhouse" "clientStratum" "I" ∈ AG := List.mem_filter.mpr ⟨Q1_9i (List.mem_of_getElem? (i := 12) rfl), rfl⟩
theorem q_181 : Cond.fieldLink RX5 195 "Clockhouse" "stepCount" "I" ∈ AG := List.mem_filter.mpr ⟨Q1_9i (List.mem_of_getElem? (i := 13) rfl), rfl⟩
theorem q_182 : Cond.fieldLink RX5 189 "Clockhouse" "synchronizationCount" "I" ∈ AG := List.mem_filter.mpr ⟨Q1_9i (List.mem_of_getElem? (i := 14) rfl), rfl⟩
theorem q_183 : Cond.fieldLink RX5 186 "Clockhouse" "readingBehindSynchronization" "J" ∈ AG := List.mem_filter.mpr ⟨Q1_9i (List.mem_of_getElem? (i := 15) rfl), rfl⟩
theorem q_205 : Cond.methodLink RL 152 yX5_clock ∈ AG := List.mem_filter.mpr ⟨Q1_11i (List.mem_of_getElem? (i := 5) rfl), rfl⟩
theorem q_206 : Cond.instanceMethod yX5_clock ∈ AG := List.mem_filter.mpr ⟨Q1_11i (List.mem_of_getElem? (i := 6) rfl), rfl⟩
theorem q_207 : Cond.selects RX5 yX5_clock yX5_clock ∈ AG := List.mem_filter.mpr ⟨Q1_11i (List.mem_of_getElem? (i := 7) rfl), rfl⟩
theorem q_208 : Cond.code yX5_clock cX5_clock 1 (some .long) ∈ AG := List.mem_filter.mpr ⟨Q1_11i (List.mem_of_getElem? (i := 8) rfl), rfl⟩
theorem q_209 : Cond.methodLink RX5 60 yX1_reading ∈ AG := List.mem_filter.mpr ⟨Q1_11i (List.mem_of_getElem? (i := 9) rfl), rfl⟩
theorem q_210 : Cond.instanceMethod yX1_reading ∈ AG := List.mem_filter.mpr ⟨Q1_11i (List.mem_of_getElem? (i := 10) rfl), rfl⟩
theorem q_211 : Cond.selects RX1 yX1_reading yX1_reading ∈ AG := List.mem_filter.mpr ⟨Q1_11i (List.mem_of_getElem? (i := 11) rfl), rfl⟩
theorem q_212 : Cond.code yX1_reading cX1_reading 1 (some .long) ∈ AG := List.mem_filter.mpr ⟨Q1_11i (List.mem_of_getElem? (i := 12) rfl), rfl⟩
theorem q_213 : Cond.methodLink RX1 27 yJ9_floorDiv_f86c9 ∈ AG := List.mem_filter.mpr ⟨Q1_11i (List.mem_of_getElem? (i := 13) rfl), rfl⟩
theorem q_214 : Cond.static yJ9_floorDiv_f86c9 ∈ AG := List.mem_filter.mpr ⟨Q1_11i (List.mem_of_getElem? (i := 14) rfl), rfl⟩
theorem q_215 : Cond.code yJ9_floorDiv_f86c9 cJ9_floorDiv_f86c9 6 (some .long) ∈ AG := List.mem_filter.mpr ⟨Q1_11i (List.mem_of_getElem? (i := 15) rfl), rfl⟩
theorem q_216 : Cond.methodLink RL 155 yX5_civil ∈ AG := List.mem_filter.mpr ⟨Q1_12i (List.mem_of_getElem? (i := 0) rfl), rfl⟩
theorem q_217 : Cond.instanceMethod yX5_civil ∈ AG := List.mem_filter.mpr ⟨Q1_12i (List.mem_of_getElem? (i := 1) rfl), rfl⟩
theorem q_218 : Cond.selects RX5 yX5_civil yX5_civil ∈ AG := List.mem_filter.mpr ⟨Q1_12i (List.mem_of_getElem? (i := 2) rfl), rfl⟩
theorem q_219 : Cond.code yX5_civil cX5_civil 1 (some .long) ∈ AG := List.mem_filter.mpr ⟨Q1_12i (List.mem_of_getElem? (i := 3) rfl), rfl⟩
theorem q_220 : Cond.methodLink RX5 91 yX0_civilTime ∈ AG := List.mem_filter.mpr ⟨Q1_12i (List.mem_of_getElem? (i := 4) rfl), rfl⟩
theorem q_221 : Cond.instanceMethod yX0_civilTime ∈ AG := List.mem_filter.mpr ⟨Q1_12i (List.mem_of_getElem? (i := 5) rfl), rfl⟩
theorem q_222 : Cond.selects RX0 yX0_civilTime yX0_civilTime ∈ AG := List.mem_filter.mpr ⟨Q1_12i (List.mem_of_getElem? (i := 6) rfl), rfl⟩
theorem q_223 : Cond.code yX0_civilTime cX0_civilTime 6 (some .long) ∈ AG := List.mem_filter.mpr ⟨Q1_12i (List.mem_of_getElem? (i := 7) rfl), rfl⟩
theorem q_224 : Cond.methodLink RX0 20 yX0_contains ∈ AG := List.mem_filter.mpr ⟨Q1_12i (List.mem_of_getElem? (i := 8) rfl), rfl⟩
theorem q_225 : Cond.static yX0_contains ∈ AG := List.mem_filter.mpr ⟨Q1_12i (List.mem_of_getElem? (i := 9) rfl), rfl⟩
theorem q_226 : Cond.code yX0_contains cX0_contains 2 (some .boolean) ∈ AG := List.mem_filter.mpr ⟨Q1_12i (List.mem_of_getElem? (i := 10) rfl), rfl⟩
theorem q_227 : Cond.methodLink RX0 24 yX0_partCome ∈ AG := List.mem_filter.mpr ⟨Q1_12i (List.mem_of_getElem? (i := 11) rfl), rfl⟩
theorem q_228 : Cond.static yX0_partCome ∈ AG := List.mem_filter.mpr ⟨Q1_12i (List.mem_of_getElem? (i := 12) rfl), rfl⟩
theorem q_229 : Cond.code yX0_partCome cX0_partCome 5 (some .long) ∈ AG := List.mem_filter.mpr ⟨Q1_12i (List.mem_of_getElem? (i := 13) rfl), rfl⟩
theorem q_230 : Cond.methodLink RX0 28 yX0_smearBeginning ∈ AG := List.mem_filter.mpr ⟨Q1_12i (List.mem_of_getElem? (i := 14) rfl), rfl⟩
theorem q_231 : Cond.static yX0_smearBeginning ∈ AG := List.mem_filter.mpr ⟨Q1_12i (List.mem_of_getElem? (i := 15) rfl), rfl⟩
theorem q_232 : Cond.code yX0_smearBeginning cX0_smearBeginning 1 (some .long) ∈ AG := List.mem_filter.mpr ⟨Q1_13i (List.mem_of_getElem? (i := 0) rfl), rfl⟩
theorem q_233 : Cond.constantLong RX0 9 (86400000000) ∈ AG := List.mem_filter.mpr ⟨Q1_13i (List.mem_of_getElem? (i := 1) rfl), rfl⟩
theorem q_234 : Cond.constantLong RX0 11 (20000000000) ∈ AG := List.mem_filter.mpr ⟨Q1_13i (List.mem_of_getElem? (i := 2) rfl), rfl⟩
theorem q_235 : Cond.constantLong RX0 32 (20000) ∈ AG := List.mem_filter.mpr ⟨Q1_13i (List.mem_of_getElem? (i := 3) rfl), rfl⟩
theorem q_236 : Cond.constantLong RX0 34 (1000000) ∈ AG := List.mem_filter.mpr ⟨Q1_13i (List.mem_of_getElem? (i := 4) rfl), rfl⟩
theorem q_237 : Cond.methodLink RL 87 yL_started ∈ AG := List.mem_filter.mpr ⟨Q1_13i (List.mem_of_getElem? (i := 5) rfl), rfl⟩
theorem q_238 : Cond.static yL_started ∈ AG := List.mem_filter.mpr ⟨Q1_13i (List.mem_of_getElem? (i := 6) rfl), rfl⟩
theorem q_239 : Cond.codeWith yL_started cL_started 3 (some .int) [(0, 5, 8, 13)] ∈ AG := List.mem_filter.mpr ⟨Q1_13i (List.mem_of_getElem? (i := 7) rfl), rfl⟩
theorem q_240 : Cond.classLink RL 13 "java/lang/IllegalArgumentException" ∈ AG := List.mem_filter.mpr ⟨Q1_13i (List.mem_of_getElem? (i := 8) rfl), rfl⟩
theorem q_241 : Cond.methodLink RL 7 yX5_restart ∈ AG := List.mem_filter.mpr ⟨Q1_13i (List.mem_of_getElem? (i := 9) rfl), rfl⟩
theorem q_242 : Cond.instanceMethod yX5_restart ∈ AG := List.mem_filter.mpr ⟨Q1_13i (List.mem_of_getElem? (i := 10) rfl), rfl⟩
theorem q_243 : Cond.selects RX5 yX5_restart yX5_restart ∈ AG := List.mem_filter.mpr ⟨Q1_13i (List.mem_of_getElem? (i := 11) rfl), rfl⟩
theorem q_244 : Cond.code yX5_restart cX5_restart 2 none ∈ AG := List.mem_filter.mpr ⟨Q1_13i (List.mem_of_getElem? (i := 12) rfl), rfl⟩
theorem q_245 : Cond.constant RX5 41 (-1000000000) ∈ AG := List.mem_filter.mpr ⟨Q1_13i (List.mem_of_getElem? (i := 13) rfl), rfl⟩
theorem q_246 : Cond.constant RX5 42 (1000000000) ∈ AG := List.mem_filter.mpr ⟨Q1_13i (List.mem_of_getElem? (i := 14) rfl), rfl⟩
theorem q_247 : Cond.methodLink RX5 43 yX5_isWithin ∈ AG := List.mem_filter.mpr ⟨Q1_13i (List.mem_of_getElem? (i := 15) rfl), rfl⟩
theorem q_248 : Cond.static yX5_isWithin ∈ AG := List.mem_filter.mpr ⟨Q1_14i (List.mem_of_getElem? (i := 0) rfl), rfl⟩
theorem q_249 : Cond.code yX5_isWithin cX5_isWithin 3 (some .boolean) ∈ AG := List.mem_filter.mpr ⟨Q1_14i (List.mem_of_getElem? (i := 1) rfl), rfl⟩
theorem q_250 : Cond.classLink RX5 47 "java/lang/IllegalArgumentException" ∈ AG := List.mem_filter.mpr ⟨Q1_14i (List.mem_of_getElem? (i := 2) rfl), rfl⟩
theorem q_251 : Cond.instantiable "java/lang/IllegalArgumentException" 6 ∈ AG := List.mem_filter.mpr ⟨Q1_14i (List.mem_of_getElem? (i := 3) rfl), rfl⟩
theorem q_259 : Cond.selects "java/lang/IllegalArgumentException" ⟨"java/lang/Throwable", "fillInStackTrace", "(I)Ljava/lang/Throwable;"⟩ ⟨"java/lang/Throwable", "fillInStackTrace", "(I)Ljava/lang/Throwable;"⟩ ∈ AG := List.mem_filter.mpr ⟨Q1_14i (List.mem_of_getElem? (i := 11) rfl), rfl⟩
theorem q_260 : Cond.selects "java/lang/IllegalArgumentException" ⟨"java/lang/Throwable", "fillInStackTrace", "()Ljava/lang/Throwable;"⟩ ⟨"java/lang/Throwable", "fillInStackTrace", "()Ljava/lang/Throwable;"⟩ ∈ AG := List.mem_filter.mpr ⟨Q1_14i (List.mem_of_getElem? (i := 12) rfl), rfl⟩
theorem q_271 : Cond.fieldLink "java/lang/Throwable" 198 "java/lang/Throwable" "backtrace" "Ljava/lang/Object;" ∈ AG := List.mem_filter.mpr ⟨Q2_0i (List.mem_of_getElem? (i := 7) rfl), rfl⟩
theorem q_273 : Cond.instanceMethod ⟨"java/lang/Throwable", "<init>", "()V"⟩ ∈ AG := List.mem_filter.mpr ⟨Q2_0i (List.mem_of_getElem? (i := 9) rfl), rfl⟩
theorem q_274 : Cond.code ⟨"java/lang/Throwable", "<init>", "()V"⟩ prog_16_method_1_code 1 none ∈ AG := List.mem_filter.mpr ⟨Q2_0i (List.mem_of_getElem? (i := 10) rfl), rfl⟩
theorem q_275 : Cond.methodLink "java/lang/Throwable" 1 objectInit ∈ AG := List.mem_filter.mpr ⟨Q2_0i (List.mem_of_getElem? (i := 11) rfl), rfl⟩
theorem q_276 : Cond.fieldLink "java/lang/Throwable" 13 "java/lang/Throwable" "UNASSIGNED_STACK" "[Ljava/lang/StackTraceElement;" ∈ AG := List.mem_filter.mpr ⟨Q2_0i (List.mem_of_getElem? (i := 12) rfl), rfl⟩
theorem q_278 : Cond.fieldLink "java/lang/Throwable" 20 "java/lang/Throwable" "SUPPRESSED_SENTINEL" "Ljava/util/List;" ∈ AG := List.mem_filter.mpr ⟨Q2_0i (List.mem_of_getElem? (i := 14) rfl), rfl⟩
theorem q_280 : Cond.methodLink "java/lang/Throwable" 27 ⟨"java/lang/Throwable", "fillInStackTrace", "()Ljava/lang/Throwable;"⟩ ∈ AG := List.mem_filter.mpr ⟨Q2_1i (List.mem_of_getElem? (i := 0) rfl), rfl⟩
theorem q_281 : Cond.instanceMethod ⟨"java/lang/Throwable", "fillInStackTrace", "()Ljava/lang/Throwable;"⟩ ∈ AG := List.mem_filter.mpr ⟨Q2_1i (List.mem_of_getElem? (i := 1) rfl), rfl⟩
theorem q_283 : Cond.selects "java/lang/IllegalStateException" ⟨"java/lang/Throwable", "fillInStackTrace", "()Ljava/lang/Throwable;"⟩ ⟨"java/lang/Throwable", "fillInStackTrace", "()Ljava/lang/Throwable;"⟩ ∈ AG := List.mem_filter.mpr ⟨Q2_1i (List.mem_of_getElem? (i := 3) rfl), rfl⟩
theorem q_284 : Cond.selects "java/lang/IndexOutOfBoundsException" ⟨"java/lang/Throwable", "fillInStackTrace", "()Ljava/lang/Throwable;"⟩ ⟨"java/lang/Throwable", "fillInStackTrace", "()Ljava/lang/Throwable;"⟩ ∈ AG := List.mem_filter.mpr ⟨Q2_1i (List.mem_of_getElem? (i := 4) rfl), rfl⟩
theorem q_286 : Cond.methodLink "java/lang/Throwable" 202 ⟨"java/lang/Throwable", "fillInStackTrace", "(I)Ljava/lang/Throwable;"⟩ ∈ AG := List.mem_filter.mpr ⟨Q2_1i (List.mem_of_getElem? (i := 6) rfl), rfl⟩
theorem q_288 : Cond.instanceMethod ⟨"java/lang/Throwable", "fillInStackTrace", "(I)Ljava/lang/Throwable;"⟩ ∈ AG := List.mem_filter.mpr ⟨Q2_1i (List.mem_of_getElem? (i := 8) rfl), rfl⟩
theorem q_289 : Cond.instantiable "java/lang/Throwable" 6 ∈ AG := List.mem_filter.mpr ⟨Q2_1i (List.mem_of_getElem? (i := 9) rfl), rfl⟩
theorem q_291 : Cond.methodLink RX5 49 ⟨"java/lang/IllegalArgumentException", "<init>", "()V"⟩ ∈ AG := List.mem_filter.mpr ⟨Q2_1i (List.mem_of_getElem? (i := 11) rfl), rfl⟩
theorem q_292 : Cond.instanceMethod ⟨"java/lang/IllegalArgumentException", "<init>", "()V"⟩ ∈ AG := List.mem_filter.mpr ⟨Q2_1i (List.mem_of_getElem? (i := 12) rfl), rfl⟩
theorem q_293 : Cond.code ⟨"java/lang/IllegalArgumentException", "<init>", "()V"⟩ prog_10_method_1_code 1 none ∈ AG := List.mem_filter.mpr ⟨Q2_1i (List.mem_of_getElem? (i := 13) rfl), rfl⟩
theorem q_294 : Cond.methodLink "java/lang/IllegalArgumentException" 1 ⟨"java/lang/RuntimeException", "<init>", "()V"⟩ ∈ AG := List.mem_filter.mpr ⟨Q2_1i (List.mem_of_getElem? (i := 14) rfl), rfl⟩
theorem q_295 : Cond.instanceMethod ⟨"java/lang/RuntimeException", "<init>", "()V"⟩ ∈ AG := List.mem_filter.mpr ⟨Q2_1i (List.mem_of_getElem? (i := 15) rfl), rfl⟩
theorem q_296 : Cond.code ⟨"java/lang/RuntimeException", "<init>", "()V"⟩ prog_15_method_1_code 1 none ∈ AG := List.mem_filter.mpr ⟨Q2_2i (List.mem_of_getElem? (i := 0) rfl), rfl⟩
theorem q_297 : Cond.methodLink "java/lang/RuntimeException" 1 ⟨"java/lang/Exception", "<init>", "()V"⟩ ∈ AG := List.mem_filter.mpr ⟨Q2_2i (List.mem_of_getElem? (i := 1) rfl), rfl⟩
theorem q_298 : Cond.instanceMethod ⟨"java/lang/Exception", "<init>", "()V"⟩ ∈ AG := List.mem_filter.mpr ⟨Q2_2i (List.mem_of_getElem? (i := 2) rfl), rfl⟩
theorem q_299 : Cond.code ⟨"java/lang/Exception", "<init>", "()V"⟩ prog_9_method_1_code 1 none ∈ AG := List.mem_filter.mpr ⟨Q2_2i (List.mem_of_getElem? (i := 3) rfl), rfl⟩
theorem q_300 : Cond.methodLink "java/lang/Exception" 1 ⟨"java/lang/Throwable", "<init>", "()V"⟩ ∈ AG := List.mem_filter.mpr ⟨Q2_2i (List.mem_of_getElem? (i := 4) rfl), rfl⟩
theorem q_302 : Cond.fieldLink "java/lang/Throwable" 7 "java/lang/Throwable" "cause" "Ljava/lang/Throwable;" ∈ AG := List.mem_filter.mpr ⟨Q2_2i (List.mem_of_getElem? (i := 6) rfl), rfl⟩
theorem q_303 : Cond.fieldLink "java/lang/Throwable" 17 "java/lang/Throwable" "stackTrace" "[Ljava/lang/StackTraceElement;" ∈ AG := List.mem_filter.mpr ⟨Q2_2i (List.mem_of_getElem? (i := 7) rfl), rfl⟩
theorem q_304 : Cond.fieldLink "java/lang/Throwable" 24 "java/lang/Throwable" "suppressedExceptions" "Ljava/util/List;" ∈ AG := List.mem_filter.mpr ⟨Q2_2i (List.mem_of_getElem? (i := 8) rfl), rfl⟩
theorem q_313 : Cond.constant RL 15 (-9999002) ∈ AG := List.mem_filter.mpr ⟨Q2_3i (List.mem_of_getElem? (i := 1) rfl), rfl⟩
theorem q_314 : Cond.methodLink RL 194 yL_drawn ∈ AG := List.mem_filter.mpr ⟨Q2_3i (List.mem_of_getElem? (i := 2) rfl), rfl⟩
theorem q_315 : Cond.static yL_drawn ∈ AG := List.mem_filter.mpr ⟨Q2_3i (List.mem_of_getElem? (i := 3) rfl), rfl⟩
theorem q_316 : Cond.code yL_drawn cL_drawn 2 (some .int) ∈ AG := List.mem_filter.mpr ⟨Q2_3i (List.mem_of_getElem? (i := 4) rfl), rfl⟩
theorem q_317 : Cond.constant RL 81 (15522001) ∈ AG := List.mem_filter.mpr ⟨Q2_3i (List.mem_of_getElem? (i := 5) rfl), rfl⟩
theorem q_318 : Cond.constant RL 82 (2147483647) ∈ AG := List.mem_filter.mpr ⟨Q2_3i (List.mem_of_getElem? (i := 6) rfl), rfl⟩
theorem q_319 : Cond.methodLink RL 200 yL_refuses ∈ AG := List.mem_filter.mpr ⟨Q2_3i (List.mem_of_getElem? (i := 7) rfl), rfl⟩
theorem q_320 : Cond.static yL_refuses ∈ AG := List.mem_filter.mpr ⟨Q2_3i (List.mem_of_getElem? (i := 8) rfl), rfl⟩
theorem q_321 : Cond.code yL_refuses cL_refuses 5 (some .boolean) ∈ AG := List.mem_filter.mpr ⟨Q2_3i (List.mem_of_getElem? (i := 9) rfl), rfl⟩
theorem q_322 : Cond.methodLink RL 83 yX5_servers ∈ AG := List.mem_filter.mpr ⟨Q2_3i (List.mem_of_getElem? (i := 10) rfl), rfl⟩
theorem q_323 : Cond.instanceMethod yX5_servers ∈ AG := List.mem_filter.mpr ⟨Q2_3i (List.mem_of_getElem? (i := 11) rfl), rfl⟩
theorem q_324 : Cond.selects RX5 yX5_servers yX5_servers ∈ AG := List.mem_filter.mpr ⟨Q2_3i (List.mem_of_getElem? (i := 12) rfl), rfl⟩
theorem q_325 : Cond.code yX5_servers cX5_servers 1 (some .int) ∈ AG := List.mem_filter.mpr ⟨Q2_3i (List.mem_of_getElem? (i := 13) rfl), rfl⟩
theorem q_326 : Cond.constant RL 86 (1000000001) ∈ AG := List.mem_filter.mpr ⟨Q2_3i (List.mem_of_getElem? (i := 14) rfl), rfl⟩
theorem q_327 : Cond.methodLink RL 93 yL_passed ∈ AG := List.mem_filter.mpr ⟨Q2_3i (List.mem_of_getElem? (i := 15) rfl), rfl⟩
theorem q_328 : Cond.static yL_passed ∈ AG := List.mem_filter.mpr ⟨Q2_4i (List.mem_of_getElem? (i := 0) rfl), rfl⟩
theorem q_329 : Cond.codeWith yL_passed cL_passed 3 (some .long) [(0, 5, 6, 13), (0, 5, 11, 22)] ∈ AG := List.mem_filter.mpr ⟨Q2_4i (List.mem_of_getElem? (i := 1) rfl), rfl⟩
theorem q_330 : Cond.classLink RL 22 "java/lang/IllegalStateException" ∈ AG := List.mem_filter.mpr ⟨Q2_4i (List.mem_of_getElem? (i := 2) rfl), rfl⟩
theorem q_331 : Cond.methodLink RL 16 yX5_pass ∈ AG := List.mem_filter.mpr ⟨Q2_4i (List.mem_of_getElem? (i := 3) rfl), rfl⟩
theorem q_332 : Cond.instanceMethod yX5_pass ∈ AG := List.mem_filter.mpr ⟨Q2_4i (List.mem_of_getElem? (i := 4) rfl), rfl⟩
theorem q_333 : Cond.selects RX5 yX5_pass yX5_pass ∈ AG := List.mem_filter.mpr ⟨Q2_4i (List.mem_of_getElem? (i := 5) rfl), rfl⟩
theorem q_334 : Cond.code yX5_pass cX5_pass 2 (some .long) ∈ AG := List.mem_filter.mpr ⟨Q2_4i (List.mem_of_getElem? (i := 6) rfl), rfl⟩
theorem q_335 : Cond.methodLink RX5 50 yX5_isBeyondLastTrueTime ∈ AG := List.mem_filter.mpr ⟨Q2_4i (List.mem_of_getElem? (i := 7) rfl), rfl⟩
theorem q_337 : Cond.instanceMethod yX5_isBeyondLastTrueTime ∈ AG := List.mem_filter.mpr ⟨Q2_4i (List.mem_of_getElem? (i := 9) rfl), rfl⟩
theorem q_338 : Cond.code yX5_isBeyondLastTrueTime cX5_isBeyondLastTrueTime 3 (some .boolean) ∈ AG := List.mem_filter.mpr ⟨Q2_4i (List.mem_of_getElem? (i := 10) rfl), rfl⟩
theorem q_339 : Cond.constantLong RX5 203 (1000000000000) ∈ AG := List.mem_filter.mpr ⟨Q2_4i (List.mem_of_getElem? (i := 11) rfl), rfl⟩
theorem q_340 : Cond.classLink RX5 54 "java/lang/IllegalStateException" ∈ AG := List.mem_filter.mpr ⟨Q2_4i (List.mem_of_getElem? (i := 12) rfl), rfl⟩
theorem q_341 : Cond.instantiable "java/lang/IllegalStateException" 6 ∈ AG := List.mem_filter.mpr ⟨Q2_4i (List.mem_of_getElem? (i := 13) rfl), rfl⟩
theorem q_343 : Cond.selects "java/lang/IllegalStateException" ⟨"java/lang/Throwable", "fillInStackTrace", "(I)Ljava/lang/Throwable;"⟩ ⟨"java/lang/Throwable", "fillInStackTrace", "(I)Ljava/lang/Throwable;"⟩ ∈ AG := List.mem_filter.mpr ⟨Q2_4i (List.mem_of_getElem? (i := 15) rfl), rfl⟩
theorem q_349 : Cond.methodLink RX5 56 ⟨"java/lang/IllegalStateException", "<init>", "()V"⟩ ∈ AG := List.mem_filter.mpr ⟨Q2_5i (List.mem_of_getElem? (i := 5) rfl), rfl⟩
theorem q_350 : Cond.instanceMethod ⟨"java/lang/IllegalStateException", "<init>", "()V"⟩ ∈ AG := List.mem_filter.mpr ⟨Q2_5i (List.mem_of_getElem? (i := 6) rfl), rfl⟩
theorem q_351 : Cond.code ⟨"java/lang/IllegalStateException", "<init>", "()V"⟩ prog_11_method_1_code 1 none ∈ AG := List.mem_filter.mpr ⟨Q2_5i (List.mem_of_getElem? (i := 7) rfl), rfl⟩
theorem q_352 : Cond.methodLink "java/lang/IllegalStateException" 1 ⟨"java/lang/RuntimeException", "<init>", "()V"⟩ ∈ AG := List.mem_filter.mpr ⟨Q2_5i (List.mem_of_getElem? (i := 8) rfl), rfl⟩
theorem q_355 : Cond.methodLink RX5 57 yX5_elapse ∈ AG := List.mem_filter.mpr ⟨Q2_5i (List.mem_of_getElem? (i := 11) rfl), rfl⟩
theorem q_357 : Cond.instanceMethod yX5_elapse ∈ AG := List.mem_filter.mpr ⟨Q2_5i (List.mem_of_getElem? (i := 13) rfl), rfl⟩
theorem q_358 : Cond.code yX5_elapse cX5_elapse 2 none ∈ AG := List.mem_filter.mpr ⟨Q2_5i (List.mem_of_getElem? (i := 14) rfl), rfl⟩
theorem q_359 : Cond.methodLink RX5 205 yX1_elapse ∈ AG := List.mem_filter.mpr ⟨Q2_5i (List.mem_of_getElem? (i := 15) rfl), rfl⟩
theorem q_360 : Cond.instanceMethod yX1_elapse ∈ AG := List.mem_filter.mpr ⟨Q2_6i (List.mem_of_getElem? (i := 0) rfl), rfl⟩
theorem q_361 : Cond.selects RX1 yX1_elapse yX1_elapse ∈ AG := List.mem_filter.mpr ⟨Q2_6i (List.mem_of_getElem? (i := 1) rfl), rfl⟩
theorem q_362 : Cond.code yX1_elapse cX1_elapse 6 none ∈ AG := List.mem_filter.mpr ⟨Q2_6i (List.mem_of_getElem? (i := 2) rfl), rfl⟩
theorem q_363 : Cond.constantLong RX1 33 (500) ∈ AG := List.mem_filter.mpr ⟨Q2_6i (List.mem_of_getElem? (i := 3) rfl), rfl⟩
theorem q_364 : Cond.methodLink RX1 35 Lib.MathLoose.min_long.x ∈ AG := List.mem_filter.mpr ⟨Q2_6i (List.mem_of_getElem? (i := 4) rfl), rfl⟩
theorem q_365 : Cond.static Lib.MathLoose.min_long.x ∈ AG := List.mem_filter.mpr ⟨Q2_6i (List.mem_of_getElem? (i := 5) rfl), rfl⟩
theorem q_366 : Cond.code Lib.MathLoose.min_long.x Lib.MathLoose.min_long.code 4 (some .long) ∈ AG := List.mem_filter.mpr ⟨Q2_6i (List.mem_of_getElem? (i := 6) rfl), rfl⟩
theorem q_367 : Cond.methodLink RX1 38 Lib.MathLoose.max_long.x ∈ AG := List.mem_filter.mpr ⟨Q2_6i (List.mem_of_getElem? (i := 7) rfl), rfl⟩
theorem q_368 : Cond.static Lib.MathLoose.max_long.x ∈ AG := List.mem_filter.mpr ⟨Q2_6i (List.mem_of_getElem? (i := 8) rfl), rfl⟩
theorem q_369 : Cond.code Lib.MathLoose.max_long.x Lib.MathLoose.max_long.code 4 (some .long) ∈ AG := List.mem_filter.mpr ⟨Q2_6i (List.mem_of_getElem? (i := 9) rfl), rfl⟩
theorem q_370 : Cond.constantLong RL 20 (-9999002) ∈ AG := List.mem_filter.mpr ⟨Q2_6i (List.mem_of_getElem? (i := 10) rfl), rfl⟩
theorem q_371 : Cond.constantLong RL 24 (-9999003) ∈ AG := List.mem_filter.mpr ⟨Q2_6i (List.mem_of_getElem? (i := 11) rfl), rfl⟩
theorem q_372 : Cond.methodLink RL 97 yL_drifts ∈ AG := List.mem_filter.mpr ⟨Q2_6i (List.mem_of_getElem? (i := 12) rfl), rfl⟩
theorem q_373 : Cond.static yL_drifts ∈ AG := List.mem_filter.mpr ⟨Q2_6i (List.mem_of_getElem? (i := 13) rfl), rfl⟩
theorem q_374 : Cond.codeWith yL_drifts cL_drifts 3 (some .int) [(0, 5, 6, 13)] ∈ AG := List.mem_filter.mpr ⟨Q2_6i (List.mem_of_getElem? (i := 14) rfl), rfl⟩
theorem q_375 : Cond.methodLink RL 26 yX5_setDrift ∈ AG := List.mem_filter.mpr ⟨Q2_6i (List.mem_of_getElem? (i := 15) rfl), rfl⟩
theorem q_376 : Cond.instanceMethod yX5_setDrift ∈ AG := List.mem_filter.mpr ⟨Q2_7i (List.mem_of_getElem? (i := 0) rfl), rfl⟩
theorem q_377 : Cond.selects RX5 yX5_setDrift yX5_setDrift ∈ AG := List.mem_filter.mpr ⟨Q2_7i (List.mem_of_getElem? (i := 1) rfl), rfl⟩
theorem q_378 : Cond.code yX5_setDrift cX5_setDrift 2 (some .int) ∈ AG := List.mem_filter.mpr ⟨Q2_7i (List.mem_of_getElem? (i := 2) rfl), rfl⟩
theorem q_379 : Cond.methodLink RX5 64 yX1_changeDrift ∈ AG := List.mem_filter.mpr ⟨Q2_7i (List.mem_of_getElem? (i := 3) rfl), rfl⟩
theorem q_380 : Cond.instanceMethod yX1_changeDrift ∈ AG := List.mem_filter.mpr ⟨Q2_7i (List.mem_of_getElem? (i := 4) rfl), rfl⟩
theorem q_381 : Cond.selects RX1 yX1_changeDrift yX1_changeDrift ∈ AG := List.mem_filter.mpr ⟨Q2_7i (List.mem_of_getElem? (i := 5) rfl), rfl⟩
theorem q_382 : Cond.code yX1_changeDrift cX1_changeDrift 3 (some .int) ∈ AG := List.mem_filter.mpr ⟨Q2_7i (List.mem_of_getElem? (i := 6) rfl), rfl⟩
theorem q_383 : Cond.methodLink RL 100 yL_announced ∈ AG := List.mem_filter.mpr ⟨Q2_7i (List.mem_of_getElem? (i := 7) rfl), rfl⟩
theorem q_384 : Cond.static yL_announced ∈ AG := List.mem_filter.mpr ⟨Q2_7i (List.mem_of_getElem? (i := 8) rfl), rfl⟩
theorem q_385 : Cond.codeWith yL_announced cL_announced 4 (some .long) [(0, 6, 7, 13), (0, 6, 12, 22)] ∈ AG := List.mem_filter.mpr ⟨Q2_7i (List.mem_of_getElem? (i := 9) rfl), rfl⟩
theorem q_386 : Cond.methodLink RL 30 yX5_announceLeap ∈ AG := List.mem_filter.mpr ⟨Q2_7i (List.mem_of_getElem? (i := 10) rfl), rfl⟩
theorem q_387 : Cond.instanceMethod yX5_announceLeap ∈ AG := List.mem_filter.mpr ⟨Q2_7i (List.mem_of_getElem? (i := 11) rfl), rfl⟩
theorem q_388 : Cond.selects RX5 yX5_announceLeap yX5_announceLeap ∈ AG := List.mem_filter.mpr ⟨Q2_7i (List.mem_of_getElem? (i := 12) rfl), rfl⟩
theorem q_389 : Cond.code yX5_announceLeap cX5_announceLeap 5 (some .long) ∈ AG := List.mem_filter.mpr ⟨Q2_7i (List.mem_of_getElem? (i := 13) rfl), rfl⟩
theorem q_390 : Cond.methodLink RX5 79 yX0_smearBeginning ∈ AG := List.mem_filter.mpr ⟨Q2_7i (List.mem_of_getElem? (i := 14) rfl), rfl⟩
theorem q_391 : Cond.methodLink RX5 83 yX0_isAnnounced ∈ AG := List.mem_filter.mpr ⟨Q2_7i (List.mem_of_getElem? (i := 15) rfl), rfl⟩
theorem q_392 : Cond.instanceMethod yX0_isAnnounced ∈ AG := List.mem_filter.mpr ⟨Q2_8i (List.mem_of_getElem? (i := 0) rfl), rfl⟩
theorem q_393 : Cond.selects RX0 yX0_isAnnounced yX0_isAnnounced ∈ AG := List.mem_filter.mpr ⟨Q2_8i (List.mem_of_getElem? (i := 1) rfl), rfl⟩
theorem q_394 : Cond.code yX0_isAnnounced cX0_isAnnounced 2 (some .boolean) ∈ AG := List.mem_filter.mpr ⟨Q2_8i (List.mem_of_getElem? (i := 2) rfl), rfl⟩
theorem q_395 : Cond.methodLink RX5 87 yX0_announce ∈ AG := List.mem_filter.mpr ⟨Q2_8i (List.mem_of_getElem? (i := 3) rfl), rfl⟩
theorem q_396 : Cond.instanceMethod yX0_announce ∈ AG := List.mem_filter.mpr ⟨Q2_8i (List.mem_of_getElem? (i := 4) rfl), rfl⟩
theorem q_397 : Cond.selects RX0 yX0_announce yX0_announce ∈ AG := List.mem_filter.mpr ⟨Q2_8i (List.mem_of_getElem? (i := 5) rfl), rfl⟩
theorem q_398 : Cond.code yX0_announce cX0_announce 3 none ∈ AG := List.mem_filter.mpr ⟨Q2_8i (List.mem_of_getElem? (i := 6) rfl), rfl⟩
theorem q_399 : Cond.methodLink RL 104 yL_added ∈ AG := List.mem_filter.mpr ⟨Q2_8i (List.mem_of_getElem? (i := 7) rfl), rfl⟩
theorem q_400 : Cond.static yL_added ∈ AG := List.mem_filter.mpr ⟨Q2_8i (List.mem_of_getElem? (i := 8) rfl), rfl⟩
theorem q_401 : Cond.codeWith yL_added cL_added 6 (some .int) [(0, 9, 10, 13), (0, 9, 15, 22)] ∈ AG := List.mem_filter.mpr ⟨Q2_8i (List.mem_of_getElem? (i := 9) rfl), rfl⟩
theorem q_402 : Cond.methodLink RL 34 yX5_addServer ∈ AG := List.mem_filter.mpr ⟨Q2_8i (List.mem_of_getElem? (i := 10) rfl), rfl⟩
theorem q_403 : Cond.instanceMethod yX5_addServer ∈ AG := List.mem_filter.mpr ⟨Q2_8i (List.mem_of_getElem? (i := 11) rfl), rfl⟩
theorem q_404 : Cond.selects RX5 yX5_addServer yX5_addServer ∈ AG := List.mem_filter.mpr ⟨Q2_8i (List.mem_of_getElem? (i := 12) rfl), rfl⟩
theorem q_405 : Cond.code yX5_addServer cX5_addServer 6 (some .int) ∈ AG := List.mem_filter.mpr ⟨Q2_8i (List.mem_of_getElem? (i := 13) rfl), rfl⟩
theorem q_406 : Cond.methodLink RX5 95 yX5_isServerError ∈ AG := List.mem_filter.mpr ⟨Q2_8i (List.mem_of_getElem? (i := 14) rfl), rfl⟩
theorem q_407 : Cond.static yX5_isServerError ∈ AG := List.mem_filter.mpr ⟨Q2_8i (List.mem_of_getElem? (i := 15) rfl), rfl⟩
theorem q_408 : Cond.code yX5_isServerError cX5_isServerError 1 (some .boolean) ∈ AG := List.mem_filter.mpr ⟨Q2_9i (List.mem_of_getElem? (i := 0) rfl), rfl⟩
theorem q_409 : Cond.constant RX5 198 (-1000000) ∈ AG := List.mem_filter.mpr ⟨Q2_9i (List.mem_of_getElem? (i := 1) rfl), rfl⟩
theorem q_410 : Cond.constant RX5 98 (1000000) ∈ AG := List.mem_filter.mpr ⟨Q2_9i (List.mem_of_getElem? (i := 2) rfl), rfl⟩
theorem q_411 : Cond.methodLink RX5 103 yX5_roomOrNull ∈ AG := List.mem_filter.mpr ⟨Q2_9i (List.mem_of_getElem? (i := 3) rfl), rfl⟩
theorem q_413 : Cond.instanceMethod yX5_roomOrNull ∈ AG := List.mem_filter.mpr ⟨Q2_9i (List.mem_of_getElem? (i := 5) rfl), rfl⟩
theorem q_414 : Cond.code yX5_roomOrNull cX5_roomOrNull 2 (some (.object "Clockhouse$Server")) ∈ AG := List.mem_filter.mpr ⟨Q2_9i (List.mem_of_getElem? (i := 6) rfl), rfl⟩
theorem q_415 : Cond.methodLink RX5 107 yX4_settle ∈ AG := List.mem_filter.mpr ⟨Q2_9i (List.mem_of_getElem? (i := 7) rfl), rfl⟩
theorem q_416 : Cond.instanceMethod yX4_settle ∈ AG := List.mem_filter.mpr ⟨Q2_9i (List.mem_of_getElem? (i := 8) rfl), rfl⟩
theorem q_417 : Cond.selects RX4 yX4_settle yX4_settle ∈ AG := List.mem_filter.mpr ⟨Q2_9i (List.mem_of_getElem? (i := 9) rfl), rfl⟩
theorem q_418 : Cond.code yX4_settle cX4_settle 5 none ∈ AG := List.mem_filter.mpr ⟨Q2_9i (List.mem_of_getElem? (i := 10) rfl), rfl⟩
theorem q_419 : Cond.methodLink RX4 38 yX4_forget ∈ AG := List.mem_filter.mpr ⟨Q2_9i (List.mem_of_getElem? (i := 11) rfl), rfl⟩
theorem q_420 : Cond.instanceMethod yX4_forget ∈ AG := List.mem_filter.mpr ⟨Q2_9i (List.mem_of_getElem? (i := 12) rfl), rfl⟩
theorem q_421 : Cond.selects RX4 yX4_forget yX4_forget ∈ AG := List.mem_filter.mpr ⟨Q2_9i (List.mem_of_getElem? (i := 13) rfl), rfl⟩
theorem q_422 : Cond.code yX4_forget cX4_forget 1 none ∈ AG := List.mem_filter.mpr ⟨Q2_9i (List.mem_of_getElem? (i := 14) rfl), rfl⟩
theorem q_423 : Cond.constant RL 38 (-9999003) ∈ AG := List.mem_filter.mpr ⟨Q2_9i (List.mem_of_getElem? (i := 15) rfl), rfl⟩
theorem q_424 : Cond.constant RL 108 (-1000001) ∈ AG := List.mem_filter.mpr ⟨Q2_10i (List.mem_of_getElem? (i := 0) rfl), rfl⟩
theorem q_425 : Cond.constant RL 109 (2000000) ∈ AG := List.mem_filter.mpr ⟨Q2_10i (List.mem_of_getElem? (i := 1) rfl), rfl⟩
theorem q_426 : Cond.methodLink RL 110 yL_changed ∈ AG := List.mem_filter.mpr ⟨Q2_10i (List.mem_of_getElem? (i := 2) rfl), rfl⟩
theorem q_427 : Cond.static yL_changed ∈ AG := List.mem_filter.mpr ⟨Q2_10i (List.mem_of_getElem? (i := 3) rfl), rfl⟩
theorem q_428 : Cond.codeWith yL_changed cL_changed 4 (some .int) [(0, 6, 7, 43), (0, 6, 11, 13)] ∈ AG := List.mem_filter.mpr ⟨Q2_10i (List.mem_of_getElem? (i := 4) rfl), rfl⟩
theorem q_429 : Cond.classLink RL 43 "java/lang/IndexOutOfBoundsException" ∈ AG := List.mem_filter.mpr ⟨Q2_10i (List.mem_of_getElem? (i := 5) rfl), rfl⟩
theorem q_430 : Cond.methodLink RL 39 yX5_setError ∈ AG := List.mem_filter.mpr ⟨Q2_10i (List.mem_of_getElem? (i := 6) rfl), rfl⟩
theorem q_431 : Cond.instanceMethod yX5_setError ∈ AG := List.mem_filter.mpr ⟨Q2_10i (List.mem_of_getElem? (i := 7) rfl), rfl⟩
theorem q_432 : Cond.selects RX5 yX5_setError yX5_setError ∈ AG := List.mem_filter.mpr ⟨Q2_10i (List.mem_of_getElem? (i := 8) rfl), rfl⟩
theorem q_433 : Cond.code yX5_setError cX5_setError 4 (some .int) ∈ AG := List.mem_filter.mpr ⟨Q2_10i (List.mem_of_getElem? (i := 9) rfl), rfl⟩
theorem q_434 : Cond.methodLink RX5 111 yX5_knownServer ∈ AG := List.mem_filter.mpr ⟨Q2_10i (List.mem_of_getElem? (i := 10) rfl), rfl⟩
theorem q_436 : Cond.instanceMethod yX5_knownServer ∈ AG := List.mem_filter.mpr ⟨Q2_10i (List.mem_of_getElem? (i := 12) rfl), rfl⟩
theorem q_437 : Cond.code yX5_knownServer cX5_knownServer 3 (some (.object "Clockhouse$Server")) ∈ AG := List.mem_filter.mpr ⟨Q2_10i (List.mem_of_getElem? (i := 13) rfl), rfl⟩
theorem q_438 : Cond.methodLink RX5 206 yX5_serverOrNull ∈ AG := List.mem_filter.mpr ⟨Q2_10i (List.mem_of_getElem? (i := 14) rfl), rfl⟩
theorem q_440 : Cond.instanceMethod yX5_serverOrNull ∈ AG := List.mem_filter.mpr ⟨Q2_11i (List.mem_of_getElem? (i := 0) rfl), rfl⟩
theorem q_441 : Cond.code yX5_serverOrNull cX5_serverOrNull 2 (some (.object "Clockhouse$Server")) ∈ AG := List.mem_filter.mpr ⟨Q2_11i (List.mem_of_getElem? (i := 1) rfl), rfl⟩
theorem q_442 : Cond.classLink RX5 209 "java/lang/IndexOutOfBoundsException" ∈ AG := List.mem_filter.mpr ⟨Q2_11i (List.mem_of_getElem? (i := 2) rfl), rfl⟩
theorem q_443 : Cond.instantiable "java/lang/IndexOutOfBoundsException" 6 ∈ AG := List.mem_filter.mpr ⟨Q2_11i (List.mem_of_getElem? (i := 3) rfl), rfl⟩
theorem q_445 : Cond.selects "java/lang/IndexOutOfBoundsException" ⟨"java/lang/Throwable", "fillInStackTrace", "(I)Ljava/lang/Throwable;"⟩ ⟨"java/lang/Throwable", "fillInStackTrace", "(I)Ljava/lang/Throwable;"⟩ ∈ AG := List.mem_filter.mpr ⟨Q2_11i (List.mem_of_getElem? (i := 5) rfl), rfl⟩
theorem q_451 : Cond.methodLink RX5 211 ⟨"java/lang/IndexOutOfBoundsException", "<init>", "()V"⟩ ∈ AG := List.mem_filter.mpr ⟨Q2_11i (List.mem_of_getElem? (i := 11) rfl), rfl⟩
theorem q_452 : Cond.instanceMethod ⟨"java/lang/IndexOutOfBoundsException", "<init>", "()V"⟩ ∈ AG := List.mem_filter.mpr ⟨Q2_11i (List.mem_of_getElem? (i := 12) rfl), rfl⟩
theorem q_453 : Cond.code ⟨"java/lang/IndexOutOfBoundsException", "<init>", "()V"⟩ prog_12_method_1_code 1 none ∈ AG := List.mem_filter.mpr ⟨Q2_11i (List.mem_of_getElem? (i := 13) rfl), rfl⟩
theorem q_454 : Cond.methodLink "java/lang/IndexOutOfBoundsException" 1 ⟨"java/lang/RuntimeException", "<init>", "()V"⟩ ∈ AG := List.mem_filter.mpr ⟨Q2_11i (List.mem_of_getElem? (i := 14) rfl), rfl⟩
theorem q_457 : Cond.methodLink RX5 114 yX4_changeError ∈ AG := List.mem_filter.mpr ⟨Q2_12i (List.mem_of_getElem? (i := 1) rfl), rfl⟩
theorem q_458 : Cond.instanceMethod yX4_changeError ∈ AG := List.mem_filter.mpr ⟨Q2_12i (List.mem_of_getElem? (i := 2) rfl), rfl⟩
theorem q_459 : Cond.selects RX4 yX4_changeError yX4_changeError ∈ AG := List.mem_filter.mpr ⟨Q2_12i (List.mem_of_getElem? (i := 3) rfl), rfl⟩
theorem q_460 : Cond.code yX4_changeError cX4_changeError 3 (some .int) ∈ AG := List.mem_filter.mpr ⟨Q2_12i (List.mem_of_getElem? (i := 4) rfl), rfl⟩
theorem q_461 : Cond.constant RL 45 (-9999001) ∈ AG := List.mem_filter.mpr ⟨Q2_12i (List.mem_of_getElem? (i := 5) rfl), rfl⟩
theorem q_462 : Cond.methodLink RL 114 yL_exchanged ∈ AG := List.mem_filter.mpr ⟨Q2_12i (List.mem_of_getElem? (i := 6) rfl), rfl⟩
theorem q_463 : Cond.static yL_exchanged ∈ AG := List.mem_filter.mpr ⟨Q2_12i (List.mem_of_getElem? (i := 7) rfl), rfl⟩
theorem q_464 : Cond.codeWith yL_exchanged cL_exchanged 6 (some .long) [(0, 9, 10, 43), (0, 9, 16, 13), (0, 9, 22, 22)] ∈ AG := List.mem_filter.mpr ⟨Q2_12i (List.mem_of_getElem? (i := 8) rfl), rfl⟩
theorem q_465 : Cond.methodLink RL 46 yX5_exchange ∈ AG := List.mem_filter.mpr ⟨Q2_12i (List.mem_of_getElem? (i := 9) rfl), rfl⟩
theorem q_466 : Cond.instanceMethod yX5_exchange ∈ AG := List.mem_filter.mpr ⟨Q2_12i (List.mem_of_getElem? (i := 10) rfl), rfl⟩
theorem q_467 : Cond.selects RX5 yX5_exchange yX5_exchange ∈ AG := List.mem_filter.mpr ⟨Q2_12i (List.mem_of_getElem? (i := 11) rfl), rfl⟩
theorem q_468 : Cond.code yX5_exchange cX5_exchange 6 (some .long) ∈ AG := List.mem_filter.mpr ⟨Q2_12i (List.mem_of_getElem? (i := 12) rfl), rfl⟩
theorem q_469 : Cond.constant RX5 117 (500000) ∈ AG := List.mem_filter.mpr ⟨Q2_12i (List.mem_of_getElem? (i := 13) rfl), rfl⟩
theorem q_470 : Cond.constant RX5 118 (100000) ∈ AG := List.mem_filter.mpr ⟨Q2_12i (List.mem_of_getElem? (i := 14) rfl), rfl⟩
theorem q_471 : Cond.methodLink RX5 119 yX5_takeSample ∈ AG := List.mem_filter.mpr ⟨Q2_12i (List.mem_of_getElem? (i := 15) rfl), rfl⟩
theorem q_473 : Cond.instanceMethod yX5_takeSample ∈ AG := List.mem_filter.mpr ⟨Q2_13i (List.mem_of_getElem? (i := 1) rfl), rfl⟩
theorem q_474 : Cond.code yX5_takeSample cX5_takeSample 17 (some .long) ∈ AG := List.mem_filter.mpr ⟨Q2_13i (List.mem_of_getElem? (i := 2) rfl), rfl⟩
theorem q_475 : Cond.methodLink RX5 212 yX4_readingAt ∈ AG := List.mem_filter.mpr ⟨Q2_13i (List.mem_of_getElem? (i := 3) rfl), rfl⟩
theorem q_476 : Cond.instanceMethod yX4_readingAt ∈ AG := List.mem_filter.mpr ⟨Q2_13i (List.mem_of_getElem? (i := 4) rfl), rfl⟩
theorem q_477 : Cond.selects RX4 yX4_readingAt yX4_readingAt ∈ AG := List.mem_filter.mpr ⟨Q2_13i (List.mem_of_getElem? (i := 5) rfl), rfl⟩
theorem q_478 : Cond.code yX4_readingAt cX4_readingAt 3 (some .long) ∈ AG := List.mem_filter.mpr ⟨Q2_13i (List.mem_of_getElem? (i := 6) rfl), rfl⟩
theorem q_479 : Cond.constantLong RX5 215 (2) ∈ AG := List.mem_filter.mpr ⟨Q2_13i (List.mem_of_getElem? (i := 7) rfl), rfl⟩
theorem q_480 : Cond.methodLink RX5 217 yJ9_floorDiv_f86c9 ∈ AG := List.mem_filter.mpr ⟨Q2_13i (List.mem_of_getElem? (i := 8) rfl), rfl⟩
theorem q_481 : Cond.methodLink RX5 223 Lib.MathLoose.max_long.x ∈ AG := List.mem_filter.mpr ⟨Q2_13i (List.mem_of_getElem? (i := 9) rfl), rfl⟩
theorem q_482 : Cond.methodLink RX5 226 yX4_keep ∈ AG := List.mem_filter.mpr ⟨Q2_13i (List.mem_of_getElem? (i := 10) rfl), rfl⟩
theorem q_483 : Cond.instanceMethod yX4_keep ∈ AG := List.mem_filter.mpr ⟨Q2_13i (List.mem_of_getElem? (i := 11) rfl), rfl⟩
theorem q_484 : Cond.selects RX4 yX4_keep yX4_keep ∈ AG := List.mem_filter.mpr ⟨Q2_13i (List.mem_of_getElem? (i := 12) rfl), rfl⟩
theorem q_485 : Cond.code yX4_keep cX4_keep 7 none ∈ AG := List.mem_filter.mpr ⟨Q2_13i (List.mem_of_getElem? (i := 13) rfl), rfl⟩
theorem q_486 : Cond.methodLink RX4 47 yX2_push ∈ AG := List.mem_filter.mpr ⟨Q2_13i (List.mem_of_getElem? (i := 14) rfl), rfl⟩
theorem q_487 : Cond.instanceMethod yX2_push ∈ AG := List.mem_filter.mpr ⟨Q2_13i (List.mem_of_getElem? (i := 15) rfl), rfl⟩
theorem q_488 : Cond.selects RX2 yX2_push yX2_push ∈ AG := List.mem_filter.mpr ⟨Q2_14i (List.mem_of_getElem? (i := 0) rfl), rfl⟩
theorem q_489 : Cond.code yX2_push cX2_push 4 none ∈ AG := List.mem_filter.mpr ⟨Q2_14i (List.mem_of_getElem? (i := 1) rfl), rfl⟩
theorem q_490 : Cond.methodLink RX2 13 yX2_get ∈ AG := List.mem_filter.mpr ⟨Q2_14i (List.mem_of_getElem? (i := 2) rfl), rfl⟩
theorem q_491 : Cond.instanceMethod yX2_get ∈ AG := List.mem_filter.mpr ⟨Q2_14i (List.mem_of_getElem? (i := 3) rfl), rfl⟩
theorem q_492 : Cond.selects RX2 yX2_get yX2_get ∈ AG := List.mem_filter.mpr ⟨Q2_14i (List.mem_of_getElem? (i := 4) rfl), rfl⟩
theorem q_493 : Cond.code yX2_get cX2_get 2 (some .long) ∈ AG := List.mem_filter.mpr ⟨Q2_14i (List.mem_of_getElem? (i := 5) rfl), rfl⟩
theorem q_494 : Cond.methodLink RX2 17 yX2_put ∈ AG := List.mem_filter.mpr ⟨Q2_14i (List.mem_of_getElem? (i := 6) rfl), rfl⟩
theorem q_495 : Cond.instanceMethod yX2_put ∈ AG := List.mem_filter.mpr ⟨Q2_14i (List.mem_of_getElem? (i := 7) rfl), rfl⟩
theorem q_496 : Cond.selects RX2 yX2_put yX2_put ∈ AG := List.mem_filter.mpr ⟨Q2_14i (List.mem_of_getElem? (i := 8) rfl), rfl⟩
theorem q_497 : Cond.code yX2_put cX2_put 4 none ∈ AG := List.mem_filter.mpr ⟨Q2_14i (List.mem_of_getElem? (i := 9) rfl), rfl⟩
theorem q_498 : Cond.methodLink RX4 51 Lib.Math.min.name ∈ AG := List.mem_filter.mpr ⟨Q2_14i (List.mem_of_getElem? (i := 10) rfl), rfl⟩
theorem q_499 : Cond.static Lib.Math.min.name ∈ AG := List.mem_filter.mpr ⟨Q2_14i (List.mem_of_getElem? (i := 11) rfl), rfl⟩
theorem q_500 : Cond.code Lib.Math.min.name Lib.Math.min.code 2 (some .int) ∈ AG := List.mem_filter.mpr ⟨Q2_14i (List.mem_of_getElem? (i := 12) rfl), rfl⟩
theorem q_501 : Cond.methodLink RX4 57 yX4_leastDelay ∈ AG := List.mem_filter.mpr ⟨Q2_14i (List.mem_of_getElem? (i := 13) rfl), rfl⟩
theorem q_503 : Cond.instanceMethod yX4_leastDelay ∈ AG := List.mem_filter.mpr ⟨Q2_14i (List.mem_of_getElem? (i := 15) rfl), rfl⟩
theorem q_504 : Cond.code yX4_leastDelay cX4_leastDelay 3 (some .int) ∈ AG := List.mem_filter.mpr ⟨Q3_0i (List.mem_of_getElem? (i := 0) rfl), rfl⟩
theorem q_505 : Cond.methodLink RX4 61 yX2_get ∈ AG := List.mem_filter.mpr ⟨Q3_0i (List.mem_of_getElem? (i := 1) rfl), rfl⟩
theorem q_506 : Cond.constantLong RL 50 (-9999001) ∈ AG := List.mem_filter.mpr ⟨Q3_0i (List.mem_of_getElem? (i := 2) rfl), rfl⟩
theorem q_507 : Cond.methodLink RL 118 yL_samples ∈ AG := List.mem_filter.mpr ⟨Q3_0i (List.mem_of_getElem? (i := 3) rfl), rfl⟩
theorem q_508 : Cond.static yL_samples ∈ AG := List.mem_filter.mpr ⟨Q3_0i (List.mem_of_getElem? (i := 4) rfl), rfl⟩
theorem q_509 : Cond.codeWith yL_samples cL_samples 3 (some .int) [(0, 5, 6, 43)] ∈ AG := List.mem_filter.mpr ⟨Q3_0i (List.mem_of_getElem? (i := 5) rfl), rfl⟩
theorem q_510 : Cond.methodLink RL 52 yX5_samples ∈ AG := List.mem_filter.mpr ⟨Q3_0i (List.mem_of_getElem? (i := 6) rfl), rfl⟩
theorem q_511 : Cond.instanceMethod yX5_samples ∈ AG := List.mem_filter.mpr ⟨Q3_0i (List.mem_of_getElem? (i := 7) rfl), rfl⟩
theorem q_512 : Cond.selects RX5 yX5_samples yX5_samples ∈ AG := List.mem_filter.mpr ⟨Q3_0i (List.mem_of_getElem? (i := 8) rfl), rfl⟩
theorem q_513 : Cond.code yX5_samples cX5_samples 2 (some .int) ∈ AG := List.mem_filter.mpr ⟨Q3_0i (List.mem_of_getElem? (i := 9) rfl), rfl⟩
theorem q_514 : Cond.methodLink RX5 123 yX4_kept ∈ AG := List.mem_filter.mpr ⟨Q3_0i (List.mem_of_getElem? (i := 10) rfl), rfl⟩
theorem q_515 : Cond.instanceMethod yX4_kept ∈ AG := List.mem_filter.mpr ⟨Q3_0i (List.mem_of_getElem? (i := 11) rfl), rfl⟩
theorem q_516 : Cond.selects RX4 yX4_kept yX4_kept ∈ AG := List.mem_filter.mpr ⟨Q3_0i (List.mem_of_getElem? (i := 12) rfl), rfl⟩
theorem q_517 : Cond.code yX4_kept cX4_kept 1 (some .int) ∈ AG := List.mem_filter.mpr ⟨Q3_0i (List.mem_of_getElem? (i := 13) rfl), rfl⟩
theorem q_518 : Cond.methodLink RL 120 yL_offset ∈ AG := List.mem_filter.mpr ⟨Q3_0i (List.mem_of_getElem? (i := 14) rfl), rfl⟩
theorem q_519 : Cond.static yL_offset ∈ AG := List.mem_filter.mpr ⟨Q3_0i (List.mem_of_getElem? (i := 15) rfl), rfl⟩
theorem q_520 : Cond.codeWith yL_offset cL_offset 3 (some .long) [(0, 5, 6, 43), (0, 5, 11, 22)] ∈ AG := List.mem_filter.mpr ⟨Q3_1i (List.mem_of_getElem? (i := 0) rfl), rfl⟩
theorem q_521 : Cond.methodLink RL 55 yX5_offset ∈ AG := List.mem_filter.mpr ⟨Q3_1i (List.mem_of_getElem? (i := 1) rfl), rfl⟩
theorem q_522 : Cond.instanceMethod yX5_offset ∈ AG := List.mem_filter.mpr ⟨Q3_1i (List.mem_of_getElem? (i := 2) rfl), rfl⟩
theorem q_523 : Cond.selects RX5 yX5_offset yX5_offset ∈ AG := List.mem_filter.mpr ⟨Q3_1i (List.mem_of_getElem? (i := 3) rfl), rfl⟩
theorem q_524 : Cond.code yX5_offset cX5_offset 2 (some .long) ∈ AG := List.mem_filter.mpr ⟨Q3_1i (List.mem_of_getElem? (i := 4) rfl), rfl⟩
theorem q_525 : Cond.methodLink RX5 126 yX5_heardServer ∈ AG := List.mem_filter.mpr ⟨Q3_1i (List.mem_of_getElem? (i := 5) rfl), rfl⟩
theorem q_527 : Cond.instanceMethod yX5_heardServer ∈ AG := List.mem_filter.mpr ⟨Q3_1i (List.mem_of_getElem? (i := 7) rfl), rfl⟩
theorem q_528 : Cond.code yX5_heardServer cX5_heardServer 3 (some (.object "Clockhouse$Server")) ∈ AG := List.mem_filter.mpr ⟨Q3_1i (List.mem_of_getElem? (i := 8) rfl), rfl⟩
theorem q_529 : Cond.methodLink RX5 129 yX4_bestOffset ∈ AG := List.mem_filter.mpr ⟨Q3_1i (List.mem_of_getElem? (i := 9) rfl), rfl⟩
theorem q_530 : Cond.instanceMethod yX4_bestOffset ∈ AG := List.mem_filter.mpr ⟨Q3_1i (List.mem_of_getElem? (i := 10) rfl), rfl⟩
theorem q_531 : Cond.selects RX4 yX4_bestOffset yX4_bestOffset ∈ AG := List.mem_filter.mpr ⟨Q3_1i (List.mem_of_getElem? (i := 11) rfl), rfl⟩
theorem q_532 : Cond.code yX4_bestOffset cX4_bestOffset 1 (some .long) ∈ AG := List.mem_filter.mpr ⟨Q3_1i (List.mem_of_getElem? (i := 12) rfl), rfl⟩
theorem q_533 : Cond.methodLink RL 122 yL_delay ∈ AG := List.mem_filter.mpr ⟨Q3_1i (List.mem_of_getElem? (i := 13) rfl), rfl⟩
theorem q_534 : Cond.static yL_delay ∈ AG := List.mem_filter.mpr ⟨Q3_1i (List.mem_of_getElem? (i := 14) rfl), rfl⟩
theorem q_535 : Cond.codeWith yL_delay cL_delay 3 (some .long) [(0, 5, 6, 43), (0, 5, 11, 22)] ∈ AG := List.mem_filter.mpr ⟨Q3_1i (List.mem_of_getElem? (i := 15) rfl), rfl⟩
theorem q_536 : Cond.methodLink RL 58 yX5_delay ∈ AG := List.mem_filter.mpr ⟨Q3_2i (List.mem_of_getElem? (i := 0) rfl), rfl⟩
theorem q_537 : Cond.instanceMethod yX5_delay ∈ AG := List.mem_filter.mpr ⟨Q3_2i (List.mem_of_getElem? (i := 1) rfl), rfl⟩
theorem q_538 : Cond.selects RX5 yX5_delay yX5_delay ∈ AG := List.mem_filter.mpr ⟨Q3_2i (List.mem_of_getElem? (i := 2) rfl), rfl⟩
theorem q_539 : Cond.code yX5_delay cX5_delay 2 (some .long) ∈ AG := List.mem_filter.mpr ⟨Q3_2i (List.mem_of_getElem? (i := 3) rfl), rfl⟩
theorem q_540 : Cond.methodLink RX5 132 yX4_bestDelay ∈ AG := List.mem_filter.mpr ⟨Q3_2i (List.mem_of_getElem? (i := 4) rfl), rfl⟩
theorem q_541 : Cond.instanceMethod yX4_bestDelay ∈ AG := List.mem_filter.mpr ⟨Q3_2i (List.mem_of_getElem? (i := 5) rfl), rfl⟩
theorem q_542 : Cond.selects RX4 yX4_bestDelay yX4_bestDelay ∈ AG := List.mem_filter.mpr ⟨Q3_2i (List.mem_of_getElem? (i := 6) rfl), rfl⟩
theorem q_543 : Cond.code yX4_bestDelay cX4_bestDelay 1 (some .long) ∈ AG := List.mem_filter.mpr ⟨Q3_2i (List.mem_of_getElem? (i := 7) rfl), rfl⟩
theorem q_544 : Cond.methodLink RL 124 yL_jitter ∈ AG := List.mem_filter.mpr ⟨Q3_2i (List.mem_of_getElem? (i := 8) rfl), rfl⟩
theorem q_545 : Cond.static yL_jitter ∈ AG := List.mem_filter.mpr ⟨Q3_2i (List.mem_of_getElem? (i := 9) rfl), rfl⟩
theorem q_546 : Cond.codeWith yL_jitter cL_jitter 3 (some .long) [(0, 5, 6, 43), (0, 5, 11, 22)] ∈ AG := List.mem_filter.mpr ⟨Q3_2i (List.mem_of_getElem? (i := 10) rfl), rfl⟩
theorem q_547 : Cond.methodLink RL 61 yX5_jitter ∈ AG := List.mem_filter.mpr ⟨Q3_2i (List.mem_of_getElem? (i := 11) rfl), rfl⟩
theorem q_548 : Cond.instanceMethod yX5_jitter ∈ AG := List.mem_filter.mpr ⟨Q3_2i (List.mem_of_getElem? (i := 12) rfl), rfl⟩
theorem q_549 : Cond.selects RX5 yX5_jitter yX5_jitter ∈ AG := List.mem_filter.mpr ⟨Q3_2i (List.mem_of_getElem? (i := 13) rfl), rfl⟩
theorem q_550 : Cond.code yX5_jitter cX5_jitter 2 (some .long) ∈ AG := List.mem_filter.mpr ⟨Q3_2i (List.mem_of_getElem? (i := 14) rfl), rfl⟩
theorem q_551 : Cond.methodLink RX5 135 yX4_offsetJitter ∈ AG := List.mem_filter.mpr ⟨Q3_2i (List.mem_of_getElem? (i := 15) rfl), rfl⟩
theorem q_552 : Cond.instanceMethod yX4_offsetJitter ∈ AG := List.mem_filter.mpr ⟨Q3_3i (List.mem_of_getElem? (i := 0) rfl), rfl⟩
theorem q_553 : Cond.selects RX4 yX4_offsetJitter yX4_offsetJitter ∈ AG := List.mem_filter.mpr ⟨Q3_3i (List.mem_of_getElem? (i := 1) rfl), rfl⟩
theorem q_554 : Cond.code yX4_offsetJitter cX4_offsetJitter 6 (some .long) ∈ AG := List.mem_filter.mpr ⟨Q3_3i (List.mem_of_getElem? (i := 2) rfl), rfl⟩
theorem q_555 : Cond.methodLink RX4 65 Lib.MathLoose.abs_long.x ∈ AG := List.mem_filter.mpr ⟨Q3_3i (List.mem_of_getElem? (i := 3) rfl), rfl⟩
theorem q_556 : Cond.static Lib.MathLoose.abs_long.x ∈ AG := List.mem_filter.mpr ⟨Q3_3i (List.mem_of_getElem? (i := 4) rfl), rfl⟩
theorem q_557 : Cond.code Lib.MathLoose.abs_long.x Lib.MathLoose.abs_long.code 2 (some .long) ∈ AG := List.mem_filter.mpr ⟨Q3_3i (List.mem_of_getElem? (i := 5) rfl), rfl⟩
theorem q_558 : Cond.methodLink RL 126 yL_distance ∈ AG := List.mem_filter.mpr ⟨Q3_3i (List.mem_of_getElem? (i := 6) rfl), rfl⟩
theorem q_559 : Cond.static yL_distance ∈ AG := List.mem_filter.mpr ⟨Q3_3i (List.mem_of_getElem? (i := 7) rfl), rfl⟩
theorem q_560 : Cond.codeWith yL_distance cL_distance 3 (some .long) [(0, 5, 6, 43), (0, 5, 11, 22)] ∈ AG := List.mem_filter.mpr ⟨Q3_3i (List.mem_of_getElem? (i := 8) rfl), rfl⟩
theorem q_561 : Cond.methodLink RL 64 yX5_distance ∈ AG := List.mem_filter.mpr ⟨Q3_3i (List.mem_of_getElem? (i := 9) rfl), rfl⟩
theorem q_562 : Cond.instanceMethod yX5_distance ∈ AG := List.mem_filter.mpr ⟨Q3_3i (List.mem_of_getElem? (i := 10) rfl), rfl⟩
theorem q_563 : Cond.selects RX5 yX5_distance yX5_distance ∈ AG := List.mem_filter.mpr ⟨Q3_3i (List.mem_of_getElem? (i := 11) rfl), rfl⟩
theorem q_564 : Cond.code yX5_distance cX5_distance 2 (some .long) ∈ AG := List.mem_filter.mpr ⟨Q3_3i (List.mem_of_getElem? (i := 12) rfl), rfl⟩
theorem q_565 : Cond.methodLink RX5 138 yX4_distanceAt ∈ AG := List.mem_filter.mpr ⟨Q3_3i (List.mem_of_getElem? (i := 13) rfl), rfl⟩
theorem q_566 : Cond.instanceMethod yX4_distanceAt ∈ AG := List.mem_filter.mpr ⟨Q3_3i (List.mem_of_getElem? (i := 14) rfl), rfl⟩
theorem q_567 : Cond.selects RX4 yX4_distanceAt yX4_distanceAt ∈ AG := List.mem_filter.mpr ⟨Q3_3i (List.mem_of_getElem? (i := 15) rfl), rfl⟩
theorem q_568 : Cond.code yX4_distanceAt cX4_distanceAt 5 (some .long) ∈ AG := List.mem_filter.mpr ⟨Q3_4i (List.mem_of_getElem? (i := 0) rfl), rfl⟩
theorem q_569 : Cond.constantLong RX4 69 (2) ∈ AG := List.mem_filter.mpr ⟨Q3_4i (List.mem_of_getElem? (i := 1) rfl), rfl⟩
theorem q_570 : Cond.methodLink RX4 71 yX4_bestDelay ∈ AG := List.mem_filter.mpr ⟨Q3_4i (List.mem_of_getElem? (i := 2) rfl), rfl⟩
theorem q_571 : Cond.methodLink RX4 75 yX4_offsetJitter ∈ AG := List.mem_filter.mpr ⟨Q3_4i (List.mem_of_getElem? (i := 3) rfl), rfl⟩
theorem q_572 : Cond.constantLong RX4 78 (15) ∈ AG := List.mem_filter.mpr ⟨Q3_4i (List.mem_of_getElem? (i := 4) rfl), rfl⟩
theorem q_573 : Cond.constantLong RX4 80 (1000000) ∈ AG := List.mem_filter.mpr ⟨Q3_4i (List.mem_of_getElem? (i := 5) rfl), rfl⟩
theorem q_574 : Cond.methodLink RX4 82 yJ9_floorDiv_f86c9 ∈ AG := List.mem_filter.mpr ⟨Q3_4i (List.mem_of_getElem? (i := 6) rfl), rfl⟩
theorem q_575 : Cond.methodLink RL 128 yX5_hasMajority ∈ AG := List.mem_filter.mpr ⟨Q3_4i (List.mem_of_getElem? (i := 7) rfl), rfl⟩
theorem q_576 : Cond.instanceMethod yX5_hasMajority ∈ AG := List.mem_filter.mpr ⟨Q3_4i (List.mem_of_getElem? (i := 8) rfl), rfl⟩
theorem q_577 : Cond.selects RX5 yX5_hasMajority yX5_hasMajority ∈ AG := List.mem_filter.mpr ⟨Q3_4i (List.mem_of_getElem? (i := 9) rfl), rfl⟩
theorem q_578 : Cond.code yX5_hasMajority cX5_hasMajority 1 (some .boolean) ∈ AG := List.mem_filter.mpr ⟨Q3_4i (List.mem_of_getElem? (i := 10) rfl), rfl⟩
theorem q_579 : Cond.methodLink RX5 141 yX5_select ∈ AG := List.mem_filter.mpr ⟨Q3_4i (List.mem_of_getElem? (i := 11) rfl), rfl⟩
theorem q_581 : Cond.instanceMethod yX5_select ∈ AG := List.mem_filter.mpr ⟨Q3_4i (List.mem_of_getElem? (i := 13) rfl), rfl⟩
theorem q_582 : Cond.code yX5_select cX5_select 5 none ∈ AG := List.mem_filter.mpr ⟨Q3_4i (List.mem_of_getElem? (i := 14) rfl), rfl⟩
theorem q_583 : Cond.methodLink RX5 230 yX3_clear ∈ AG := List.mem_filter.mpr ⟨Q3_4i (List.mem_of_getElem? (i := 15) rfl), rfl⟩
theorem q_584 : Cond.instanceMethod yX3_clear ∈ AG := List.mem_filter.mpr ⟨Q3_5i (List.mem_of_getElem? (i := 0) rfl), rfl⟩
theorem q_585 : Cond.selects RX3 yX3_clear yX3_clear ∈ AG := List.mem_filter.mpr ⟨Q3_5i (List.mem_of_getElem? (i := 1) rfl), rfl⟩
theorem q_586 : Cond.code yX3_clear cX3_clear 1 none ∈ AG := List.mem_filter.mpr ⟨Q3_5i (List.mem_of_getElem? (i := 2) rfl), rfl⟩
theorem q_587 : Cond.methodLink RX5 231 yX3_enter ∈ AG := List.mem_filter.mpr ⟨Q3_5i (List.mem_of_getElem? (i := 3) rfl), rfl⟩
theorem q_588 : Cond.instanceMethod yX3_enter ∈ AG := List.mem_filter.mpr ⟨Q3_5i (List.mem_of_getElem? (i := 4) rfl), rfl⟩
theorem q_589 : Cond.selects RX3 yX3_enter yX3_enter ∈ AG := List.mem_filter.mpr ⟨Q3_5i (List.mem_of_getElem? (i := 5) rfl), rfl⟩
theorem q_590 : Cond.code yX3_enter cX3_enter 5 none ∈ AG := List.mem_filter.mpr ⟨Q3_5i (List.mem_of_getElem? (i := 6) rfl), rfl⟩
theorem q_591 : Cond.methodLink RX3 44 yX4_bestOffset ∈ AG := List.mem_filter.mpr ⟨Q3_5i (List.mem_of_getElem? (i := 7) rfl), rfl⟩
theorem q_592 : Cond.methodLink RX3 50 yX2_put ∈ AG := List.mem_filter.mpr ⟨Q3_5i (List.mem_of_getElem? (i := 8) rfl), rfl⟩
theorem q_593 : Cond.methodLink RX3 54 yX4_distanceAt ∈ AG := List.mem_filter.mpr ⟨Q3_5i (List.mem_of_getElem? (i := 9) rfl), rfl⟩
theorem q_594 : Cond.methodLink RX3 58 yX4_offsetJitter ∈ AG := List.mem_filter.mpr ⟨Q3_5i (List.mem_of_getElem? (i := 10) rfl), rfl⟩
theorem q_595 : Cond.methodLink RX3 61 yX4_ownStratum ∈ AG := List.mem_filter.mpr ⟨Q3_5i (List.mem_of_getElem? (i := 11) rfl), rfl⟩
theorem q_596 : Cond.instanceMethod yX4_ownStratum ∈ AG := List.mem_filter.mpr ⟨Q3_5i (List.mem_of_getElem? (i := 12) rfl), rfl⟩
theorem q_597 : Cond.selects RX4 yX4_ownStratum yX4_ownStratum ∈ AG := List.mem_filter.mpr ⟨Q3_5i (List.mem_of_getElem? (i := 13) rfl), rfl⟩
theorem q_598 : Cond.code yX4_ownStratum cX4_ownStratum 1 (some .int) ∈ AG := List.mem_filter.mpr ⟨Q3_5i (List.mem_of_getElem? (i := 14) rfl), rfl⟩
theorem q_599 : Cond.methodLink RX5 235 yX3_intersect ∈ AG := List.mem_filter.mpr ⟨Q3_5i (List.mem_of_getElem? (i := 15) rfl), rfl⟩
theorem q_600 : Cond.instanceMethod yX3_intersect ∈ AG := List.mem_filter.mpr ⟨Q3_6i (List.mem_of_getElem? (i := 0) rfl), rfl⟩
theorem q_601 : Cond.selects RX3 yX3_intersect yX3_intersect ∈ AG := List.mem_filter.mpr ⟨Q3_6i (List.mem_of_getElem? (i := 1) rfl), rfl⟩
theorem q_602 : Cond.code yX3_intersect cX3_intersect 2 none ∈ AG := List.mem_filter.mpr ⟨Q3_6i (List.mem_of_getElem? (i := 2) rfl), rfl⟩
theorem q_603 : Cond.methodLink RX3 74 yX3_contains ∈ AG := List.mem_filter.mpr ⟨Q3_6i (List.mem_of_getElem? (i := 3) rfl), rfl⟩
theorem q_604 : Cond.static yX3_contains ∈ AG := List.mem_filter.mpr ⟨Q3_6i (List.mem_of_getElem? (i := 4) rfl), rfl⟩
theorem q_605 : Cond.code yX3_contains cX3_contains 2 (some .boolean) ∈ AG := List.mem_filter.mpr ⟨Q3_6i (List.mem_of_getElem? (i := 5) rfl), rfl⟩
theorem q_606 : Cond.methodLink RX3 78 yX2_get ∈ AG := List.mem_filter.mpr ⟨Q3_6i (List.mem_of_getElem? (i := 6) rfl), rfl⟩
theorem q_607 : Cond.methodLink RX3 82 yX3_tryLowEnd ∈ AG := List.mem_filter.mpr ⟨Q3_6i (List.mem_of_getElem? (i := 7) rfl), rfl⟩
theorem q_609 : Cond.instanceMethod yX3_tryLowEnd ∈ AG := List.mem_filter.mpr ⟨Q3_6i (List.mem_of_getElem? (i := 9) rfl), rfl⟩
theorem q_610 : Cond.code yX3_tryLowEnd cX3_tryLowEnd 5 none ∈ AG := List.mem_filter.mpr ⟨Q3_6i (List.mem_of_getElem? (i := 10) rfl), rfl⟩
theorem q_611 : Cond.methodLink RX3 89 yX3_intervalsWith ∈ AG := List.mem_filter.mpr ⟨Q3_6i (List.mem_of_getElem? (i := 11) rfl), rfl⟩
theorem q_613 : Cond.instanceMethod yX3_intervalsWith ∈ AG := List.mem_filter.mpr ⟨Q3_6i (List.mem_of_getElem? (i := 13) rfl), rfl⟩
theorem q_614 : Cond.code yX3_intervalsWith cX3_intervalsWith 5 (some .int) ∈ AG := List.mem_filter.mpr ⟨Q3_6i (List.mem_of_getElem? (i := 14) rfl), rfl⟩
theorem q_615 : Cond.methodLink RX3 93 Lib.MathLoose.abs_long.x ∈ AG := List.mem_filter.mpr ⟨Q3_6i (List.mem_of_getElem? (i := 15) rfl), rfl⟩
theorem q_616 : Cond.methodLink RX3 68 yJ6_bitCount_0f7a4 ∈ AG := List.mem_filter.mpr ⟨Q3_7i (List.mem_of_getElem? (i := 0) rfl), rfl⟩
theorem q_617 : Cond.static yJ6_bitCount_0f7a4 ∈ AG := List.mem_filter.mpr ⟨Q3_7i (List.mem_of_getElem? (i := 1) rfl), rfl⟩
theorem q_618 : Cond.code yJ6_bitCount_0f7a4 cJ6_bitCount_0f7a4 1 (some .int) ∈ AG := List.mem_filter.mpr ⟨Q3_7i (List.mem_of_getElem? (i := 2) rfl), rfl⟩
theorem q_619 : Cond.constant RJ6 265 (1431655765) ∈ AG := List.mem_filter.mpr ⟨Q3_7i (List.mem_of_getElem? (i := 3) rfl), rfl⟩
theorem q_620 : Cond.constant RJ6 266 (858993459) ∈ AG := List.mem_filter.mpr ⟨Q3_7i (List.mem_of_getElem? (i := 4) rfl), rfl⟩
theorem q_621 : Cond.constant RJ6 267 (252645135) ∈ AG := List.mem_filter.mpr ⟨Q3_7i (List.mem_of_getElem? (i := 5) rfl), rfl⟩
theorem q_622 : Cond.methodLink RX3 86 yX3_leastUpperEnd ∈ AG := List.mem_filter.mpr ⟨Q3_7i (List.mem_of_getElem? (i := 6) rfl), rfl⟩
theorem q_624 : Cond.instanceMethod yX3_leastUpperEnd ∈ AG := List.mem_filter.mpr ⟨Q3_7i (List.mem_of_getElem? (i := 8) rfl), rfl⟩
theorem q_625 : Cond.code yX3_leastUpperEnd cX3_leastUpperEnd 7 (some .long) ∈ AG := List.mem_filter.mpr ⟨Q3_7i (List.mem_of_getElem? (i := 9) rfl), rfl⟩
theorem q_626 : Cond.methodLink RX5 238 yX3_cluster ∈ AG := List.mem_filter.mpr ⟨Q3_7i (List.mem_of_getElem? (i := 10) rfl), rfl⟩
theorem q_627 : Cond.instanceMethod yX3_cluster ∈ AG := List.mem_filter.mpr ⟨Q3_7i (List.mem_of_getElem? (i := 11) rfl), rfl⟩
theorem q_628 : Cond.selects RX3 yX3_cluster yX3_cluster ∈ AG := List.mem_filter.mpr ⟨Q3_7i (List.mem_of_getElem? (i := 12) rfl), rfl⟩
theorem q_629 : Cond.code yX3_cluster cX3_cluster 3 none ∈ AG := List.mem_filter.mpr ⟨Q3_7i (List.mem_of_getElem? (i := 13) rfl), rfl⟩
theorem q_630 : Cond.methodLink RX3 98 yX3_widestSpread ∈ AG := List.mem_filter.mpr ⟨Q3_7i (List.mem_of_getElem? (i := 14) rfl), rfl⟩
theorem q_632 : Cond.instanceMethod yX3_widestSpread ∈ AG := List.mem_filter.mpr ⟨Q3_8i (List.mem_of_getElem? (i := 0) rfl), rfl⟩
theorem q_633 : Cond.code yX3_widestSpread cX3_widestSpread 3 (some .int) ∈ AG := List.mem_filter.mpr ⟨Q3_8i (List.mem_of_getElem? (i := 1) rfl), rfl⟩
theorem q_634 : Cond.methodLink RX3 101 yX3_spread ∈ AG := List.mem_filter.mpr ⟨Q3_8i (List.mem_of_getElem? (i := 2) rfl), rfl⟩
theorem q_636 : Cond.instanceMethod yX3_spread ∈ AG := List.mem_filter.mpr ⟨Q3_8i (List.mem_of_getElem? (i := 4) rfl), rfl⟩
theorem q_637 : Cond.code yX3_spread cX3_spread 6 (some .long) ∈ AG := List.mem_filter.mpr ⟨Q3_8i (List.mem_of_getElem? (i := 5) rfl), rfl⟩
theorem q_638 : Cond.methodLink RX3 104 yX3_leastJitter ∈ AG := List.mem_filter.mpr ⟨Q3_8i (List.mem_of_getElem? (i := 6) rfl), rfl⟩
theorem q_640 : Cond.instanceMethod yX3_leastJitter ∈ AG := List.mem_filter.mpr ⟨Q3_8i (List.mem_of_getElem? (i := 8) rfl), rfl⟩
theorem q_641 : Cond.code yX3_leastJitter cX3_leastJitter 5 (some .long) ∈ AG := List.mem_filter.mpr ⟨Q3_8i (List.mem_of_getElem? (i := 9) rfl), rfl⟩
theorem q_642 : Cond.methodLink RX5 147 yX3_isMajority ∈ AG := List.mem_filter.mpr ⟨Q3_8i (List.mem_of_getElem? (i := 10) rfl), rfl⟩
theorem q_643 : Cond.instanceMethod yX3_isMajority ∈ AG := List.mem_filter.mpr ⟨Q3_8i (List.mem_of_getElem? (i := 11) rfl), rfl⟩
theorem q_644 : Cond.selects RX3 yX3_isMajority yX3_isMajority ∈ AG := List.mem_filter.mpr ⟨Q3_8i (List.mem_of_getElem? (i := 12) rfl), rfl⟩
theorem q_645 : Cond.code yX3_isMajority cX3_isMajority 1 (some .boolean) ∈ AG := List.mem_filter.mpr ⟨Q3_8i (List.mem_of_getElem? (i := 13) rfl), rfl⟩
theorem q_646 : Cond.methodLink RX3 65 yX3_agreed ∈ AG := List.mem_filter.mpr ⟨Q3_8i (List.mem_of_getElem? (i := 14) rfl), rfl⟩
theorem q_647 : Cond.instanceMethod yX3_agreed ∈ AG := List.mem_filter.mpr ⟨Q3_8i (List.mem_of_getElem? (i := 15) rfl), rfl⟩
theorem q_648 : Cond.selects RX3 yX3_agreed yX3_agreed ∈ AG := List.mem_filter.mpr ⟨Q3_9i (List.mem_of_getElem? (i := 0) rfl), rfl⟩
theorem q_649 : Cond.code yX3_agreed cX3_agreed 1 (some .int) ∈ AG := List.mem_filter.mpr ⟨Q3_9i (List.mem_of_getElem? (i := 1) rfl), rfl⟩
theorem q_650 : Cond.methodLink RL 132 yL_synchronizes ∈ AG := List.mem_filter.mpr ⟨Q3_9i (List.mem_of_getElem? (i := 2) rfl), rfl⟩
theorem q_651 : Cond.static yL_synchronizes ∈ AG := List.mem_filter.mpr ⟨Q3_9i (List.mem_of_getElem? (i := 3) rfl), rfl⟩
theorem q_652 : Cond.codeWith yL_synchronizes cL_synchronizes 2 (some .int) [(0, 4, 5, 22)] ∈ AG := List.mem_filter.mpr ⟨Q3_9i (List.mem_of_getElem? (i := 4) rfl), rfl⟩
theorem q_653 : Cond.methodLink RL 77 yX5_synchronize ∈ AG := List.mem_filter.mpr ⟨Q3_9i (List.mem_of_getElem? (i := 5) rfl), rfl⟩
theorem q_654 : Cond.instanceMethod yX5_synchronize ∈ AG := List.mem_filter.mpr ⟨Q3_9i (List.mem_of_getElem? (i := 6) rfl), rfl⟩
theorem q_655 : Cond.selects RX5 yX5_synchronize yX5_synchronize ∈ AG := List.mem_filter.mpr ⟨Q3_9i (List.mem_of_getElem? (i := 7) rfl), rfl⟩
theorem q_656 : Cond.code yX5_synchronize cX5_synchronize 4 (some .int) ∈ AG := List.mem_filter.mpr ⟨Q3_9i (List.mem_of_getElem? (i := 8) rfl), rfl⟩
theorem q_657 : Cond.methodLink RX5 166 yX3_weightedOffset ∈ AG := List.mem_filter.mpr ⟨Q3_9i (List.mem_of_getElem? (i := 9) rfl), rfl⟩
theorem q_658 : Cond.instanceMethod yX3_weightedOffset ∈ AG := List.mem_filter.mpr ⟨Q3_9i (List.mem_of_getElem? (i := 10) rfl), rfl⟩
theorem q_659 : Cond.selects RX3 yX3_weightedOffset yX3_weightedOffset ∈ AG := List.mem_filter.mpr ⟨Q3_9i (List.mem_of_getElem? (i := 11) rfl), rfl⟩
theorem q_660 : Cond.code yX3_weightedOffset cX3_weightedOffset 6 (some .long) ∈ AG := List.mem_filter.mpr ⟨Q3_9i (List.mem_of_getElem? (i := 12) rfl), rfl⟩
theorem q_661 : Cond.methodLink RX3 107 yX3_weight ∈ AG := List.mem_filter.mpr ⟨Q3_9i (List.mem_of_getElem? (i := 13) rfl), rfl⟩
theorem q_663 : Cond.instanceMethod yX3_weight ∈ AG := List.mem_filter.mpr ⟨Q3_9i (List.mem_of_getElem? (i := 15) rfl), rfl⟩
theorem q_664 : Cond.code yX3_weight cX3_weight 4 (some .long) ∈ AG := List.mem_filter.mpr ⟨Q3_10i (List.mem_of_getElem? (i := 0) rfl), rfl⟩
theorem q_665 : Cond.constantLong RX3 114 (1000000) ∈ AG := List.mem_filter.mpr ⟨Q3_10i (List.mem_of_getElem? (i := 1) rfl), rfl⟩
theorem q_666 : Cond.methodLink RX3 116 Lib.MathLoose.max_long.x ∈ AG := List.mem_filter.mpr ⟨Q3_10i (List.mem_of_getElem? (i := 2) rfl), rfl⟩
theorem q_667 : Cond.methodLink RX3 110 yJ9_floorDiv_f86c9 ∈ AG := List.mem_filter.mpr ⟨Q3_10i (List.mem_of_getElem? (i := 3) rfl), rfl⟩
theorem q_668 : Cond.methodLink RX5 172 yX5_correctRate ∈ AG := List.mem_filter.mpr ⟨Q3_10i (List.mem_of_getElem? (i := 4) rfl), rfl⟩
theorem q_670 : Cond.instanceMethod yX5_correctRate ∈ AG := List.mem_filter.mpr ⟨Q3_10i (List.mem_of_getElem? (i := 6) rfl), rfl⟩
theorem q_671 : Cond.code yX5_correctRate cX5_correctRate 7 none ∈ AG := List.mem_filter.mpr ⟨Q3_10i (List.mem_of_getElem? (i := 7) rfl), rfl⟩
theorem q_672 : Cond.constantLong RX5 244 (1000000) ∈ AG := List.mem_filter.mpr ⟨Q3_10i (List.mem_of_getElem? (i := 8) rfl), rfl⟩
theorem q_673 : Cond.constantLong RX5 246 (4) ∈ AG := List.mem_filter.mpr ⟨Q3_10i (List.mem_of_getElem? (i := 9) rfl), rfl⟩
theorem q_674 : Cond.methodLink RX5 248 yX1_addCorrection ∈ AG := List.mem_filter.mpr ⟨Q3_10i (List.mem_of_getElem? (i := 10) rfl), rfl⟩
theorem q_675 : Cond.instanceMethod yX1_addCorrection ∈ AG := List.mem_filter.mpr ⟨Q3_10i (List.mem_of_getElem? (i := 11) rfl), rfl⟩
theorem q_676 : Cond.selects RX1 yX1_addCorrection yX1_addCorrection ∈ AG := List.mem_filter.mpr ⟨Q3_10i (List.mem_of_getElem? (i := 12) rfl), rfl⟩
theorem q_677 : Cond.code yX1_addCorrection cX1_addCorrection 5 none ∈ AG := List.mem_filter.mpr ⟨Q3_10i (List.mem_of_getElem? (i := 13) rfl), rfl⟩
theorem q_678 : Cond.constantLong RX1 41 (-500) ∈ AG := List.mem_filter.mpr ⟨Q3_10i (List.mem_of_getElem? (i := 14) rfl), rfl⟩
theorem q_679 : Cond.methodLink RX5 176 yX5_correctTime ∈ AG := List.mem_filter.mpr ⟨Q3_10i (List.mem_of_getElem? (i := 15) rfl), rfl⟩
theorem q_681 : Cond.instanceMethod yX5_correctTime ∈ AG := List.mem_filter.mpr ⟨Q3_11i (List.mem_of_getElem? (i := 1) rfl), rfl⟩
theorem q_682 : Cond.code yX5_correctTime cX5_correctTime 3 (some .int) ∈ AG := List.mem_filter.mpr ⟨Q3_11i (List.mem_of_getElem? (i := 2) rfl), rfl⟩
theorem q_683 : Cond.constantLong RX5 251 (128000) ∈ AG := List.mem_filter.mpr ⟨Q3_11i (List.mem_of_getElem? (i := 3) rfl), rfl⟩
theorem q_684 : Cond.methodLink RX5 253 yX1_step ∈ AG := List.mem_filter.mpr ⟨Q3_11i (List.mem_of_getElem? (i := 4) rfl), rfl⟩
theorem q_685 : Cond.instanceMethod yX1_step ∈ AG := List.mem_filter.mpr ⟨Q3_11i (List.mem_of_getElem? (i := 5) rfl), rfl⟩
theorem q_686 : Cond.selects RX1 yX1_step yX1_step ∈ AG := List.mem_filter.mpr ⟨Q3_11i (List.mem_of_getElem? (i := 6) rfl), rfl⟩
theorem q_687 : Cond.code yX1_step cX1_step 3 none ∈ AG := List.mem_filter.mpr ⟨Q3_11i (List.mem_of_getElem? (i := 7) rfl), rfl⟩
theorem q_688 : Cond.methodLink RX5 256 yX1_slew ∈ AG := List.mem_filter.mpr ⟨Q3_11i (List.mem_of_getElem? (i := 8) rfl), rfl⟩
theorem q_689 : Cond.instanceMethod yX1_slew ∈ AG := List.mem_filter.mpr ⟨Q3_11i (List.mem_of_getElem? (i := 9) rfl), rfl⟩
theorem q_690 : Cond.selects RX1 yX1_slew yX1_slew ∈ AG := List.mem_filter.mpr ⟨Q3_11i (List.mem_of_getElem? (i := 10) rfl), rfl⟩
theorem q_691 : Cond.code yX1_slew cX1_slew 3 none ∈ AG := List.mem_filter.mpr ⟨Q3_11i (List.mem_of_getElem? (i := 11) rfl), rfl⟩
theorem q_692 : Cond.methodLink RX5 180 yX5_takeStratumOfPeer ∈ AG := List.mem_filter.mpr ⟨Q3_11i (List.mem_of_getElem? (i := 12) rfl), rfl⟩
theorem q_694 : Cond.instanceMethod yX5_takeStratumOfPeer ∈ AG := List.mem_filter.mpr ⟨Q3_11i (List.mem_of_getElem? (i := 14) rfl), rfl⟩
theorem q_695 : Cond.code yX5_takeStratumOfPeer cX5_takeStratumOfPeer 2 none ∈ AG := List.mem_filter.mpr ⟨Q3_11i (List.mem_of_getElem? (i := 15) rfl), rfl⟩
theorem q_696 : Cond.methodLink RX5 169 yX3_preferred ∈ AG := List.mem_filter.mpr ⟨Q3_12i (List.mem_of_getElem? (i := 0) rfl), rfl⟩
theorem q_697 : Cond.instanceMethod yX3_preferred ∈ AG := List.mem_filter.mpr ⟨Q3_12i (List.mem_of_getElem? (i := 1) rfl), rfl⟩
theorem q_698 : Cond.selects RX3 yX3_preferred yX3_preferred ∈ AG := List.mem_filter.mpr ⟨Q3_12i (List.mem_of_getElem? (i := 2) rfl), rfl⟩
theorem q_699 : Cond.code yX3_preferred cX3_preferred 3 (some .int) ∈ AG := List.mem_filter.mpr ⟨Q3_12i (List.mem_of_getElem? (i := 3) rfl), rfl⟩
theorem q_700 : Cond.methodLink RX3 119 yX3_isBetter ∈ AG := List.mem_filter.mpr ⟨Q3_12i (List.mem_of_getElem? (i := 4) rfl), rfl⟩
theorem q_702 : Cond.instanceMethod yX3_isBetter ∈ AG := List.mem_filter.mpr ⟨Q3_12i (List.mem_of_getElem? (i := 6) rfl), rfl⟩
theorem q_703 : Cond.code yX3_isBetter cX3_isBetter 3 (some .boolean) ∈ AG := List.mem_filter.mpr ⟨Q3_12i (List.mem_of_getElem? (i := 7) rfl), rfl⟩
theorem q_704 : Cond.methodLink RX5 259 yX4_ownStratum ∈ AG := List.mem_filter.mpr ⟨Q3_12i (List.mem_of_getElem? (i := 8) rfl), rfl⟩
theorem q_705 : Cond.methodLink RX5 183 yX5_forgetSamples ∈ AG := List.mem_filter.mpr ⟨Q3_12i (List.mem_of_getElem? (i := 9) rfl), rfl⟩
theorem q_707 : Cond.instanceMethod yX5_forgetSamples ∈ AG := List.mem_filter.mpr ⟨Q3_12i (List.mem_of_getElem? (i := 11) rfl), rfl⟩
theorem q_708 : Cond.code yX5_forgetSamples cX5_forgetSamples 3 none ∈ AG := List.mem_filter.mpr ⟨Q3_12i (List.mem_of_getElem? (i := 12) rfl), rfl⟩
theorem q_709 : Cond.methodLink RX5 262 yX4_forget ∈ AG := List.mem_filter.mpr ⟨Q3_12i (List.mem_of_getElem? (i := 13) rfl), rfl⟩
theorem q_710 : Cond.methodLink RL 136 yX5_agreement ∈ AG := List.mem_filter.mpr ⟨Q3_12i (List.mem_of_getElem? (i := 14) rfl), rfl⟩
theorem q_711 : Cond.instanceMethod yX5_agreement ∈ AG := List.mem_filter.mpr ⟨Q3_12i (List.mem_of_getElem? (i := 15) rfl), rfl⟩
theorem q_712 : Cond.selects RX5 yX5_agreement yX5_agreement ∈ AG := List.mem_filter.mpr ⟨Q3_13i (List.mem_of_getElem? (i := 0) rfl), rfl⟩
theorem q_713 : Cond.code yX5_agreement cX5_agreement 1 (some .int) ∈ AG := List.mem_filter.mpr ⟨Q3_13i (List.mem_of_getElem? (i := 1) rfl), rfl⟩
theorem q_714 : Cond.methodLink RX5 144 yX3_agreed ∈ AG := List.mem_filter.mpr ⟨Q3_13i (List.mem_of_getElem? (i := 2) rfl), rfl⟩
theorem q_715 : Cond.methodLink RL 139 yL_low ∈ AG := List.mem_filter.mpr ⟨Q3_13i (List.mem_of_getElem? (i := 3) rfl), rfl⟩
theorem q_716 : Cond.static yL_low ∈ AG := List.mem_filter.mpr ⟨Q3_13i (List.mem_of_getElem? (i := 4) rfl), rfl⟩
theorem q_717 : Cond.codeWith yL_low cL_low 2 (some .long) [(0, 4, 5, 22)] ∈ AG := List.mem_filter.mpr ⟨Q3_13i (List.mem_of_getElem? (i := 5) rfl), rfl⟩
theorem q_718 : Cond.methodLink RL 67 yX5_low ∈ AG := List.mem_filter.mpr ⟨Q3_13i (List.mem_of_getElem? (i := 6) rfl), rfl⟩
theorem q_719 : Cond.instanceMethod yX5_low ∈ AG := List.mem_filter.mpr ⟨Q3_13i (List.mem_of_getElem? (i := 7) rfl), rfl⟩
theorem q_720 : Cond.selects RX5 yX5_low yX5_low ∈ AG := List.mem_filter.mpr ⟨Q3_13i (List.mem_of_getElem? (i := 8) rfl), rfl⟩
theorem q_721 : Cond.code yX5_low cX5_low 1 (some .long) ∈ AG := List.mem_filter.mpr ⟨Q3_13i (List.mem_of_getElem? (i := 9) rfl), rfl⟩
theorem q_722 : Cond.methodLink RX5 154 yX5_selectFromSome ∈ AG := List.mem_filter.mpr ⟨Q3_13i (List.mem_of_getElem? (i := 10) rfl), rfl⟩
theorem q_724 : Cond.instanceMethod yX5_selectFromSome ∈ AG := List.mem_filter.mpr ⟨Q3_13i (List.mem_of_getElem? (i := 12) rfl), rfl⟩
theorem q_725 : Cond.code yX5_selectFromSome cX5_selectFromSome 1 none ∈ AG := List.mem_filter.mpr ⟨Q3_13i (List.mem_of_getElem? (i := 13) rfl), rfl⟩
theorem q_726 : Cond.methodLink RX5 241 yX3_isEmpty ∈ AG := List.mem_filter.mpr ⟨Q3_13i (List.mem_of_getElem? (i := 14) rfl), rfl⟩
theorem q_727 : Cond.instanceMethod yX3_isEmpty ∈ AG := List.mem_filter.mpr ⟨Q3_13i (List.mem_of_getElem? (i := 15) rfl), rfl⟩
theorem q_728 : Cond.selects RX3 yX3_isEmpty yX3_isEmpty ∈ AG := List.mem_filter.mpr ⟨Q3_14i (List.mem_of_getElem? (i := 0) rfl), rfl⟩
theorem q_729 : Cond.code yX3_isEmpty cX3_isEmpty 1 (some .boolean) ∈ AG := List.mem_filter.mpr ⟨Q3_14i (List.mem_of_getElem? (i := 1) rfl), rfl⟩
theorem q_730 : Cond.methodLink RX5 157 yX3_lowEnd ∈ AG := List.mem_filter.mpr ⟨Q3_14i (List.mem_of_getElem? (i := 2) rfl), rfl⟩
theorem q_731 : Cond.instanceMethod yX3_lowEnd ∈ AG := List.mem_filter.mpr ⟨Q3_14i (List.mem_of_getElem? (i := 3) rfl), rfl⟩
theorem q_732 : Cond.selects RX3 yX3_lowEnd yX3_lowEnd ∈ AG := List.mem_filter.mpr ⟨Q3_14i (List.mem_of_getElem? (i := 4) rfl), rfl⟩
theorem q_733 : Cond.code yX3_lowEnd cX3_lowEnd 1 (some .long) ∈ AG := List.mem_filter.mpr ⟨Q3_14i (List.mem_of_getElem? (i := 5) rfl), rfl⟩
theorem q_734 : Cond.methodLink RL 142 yL_high ∈ AG := List.mem_filter.mpr ⟨Q3_14i (List.mem_of_getElem? (i := 6) rfl), rfl⟩
theorem q_735 : Cond.static yL_high ∈ AG := List.mem_filter.mpr ⟨Q3_14i (List.mem_of_getElem? (i := 7) rfl), rfl⟩
theorem q_736 : Cond.codeWith yL_high cL_high 2 (some .long) [(0, 4, 5, 22)] ∈ AG := List.mem_filter.mpr ⟨Q3_14i (List.mem_of_getElem? (i := 8) rfl), rfl⟩
theorem q_737 : Cond.methodLink RL 71 yX5_high ∈ AG := List.mem_filter.mpr ⟨Q3_14i (List.mem_of_getElem? (i := 9) rfl), rfl⟩
theorem q_738 : Cond.instanceMethod yX5_high ∈ AG := List.mem_filter.mpr ⟨Q3_14i (List.mem_of_getElem? (i := 10) rfl), rfl⟩
theorem q_739 : Cond.selects RX5 yX5_high yX5_high ∈ AG := List.mem_filter.mpr ⟨Q3_14i (List.mem_of_getElem? (i := 11) rfl), rfl⟩
theorem q_740 : Cond.code yX5_high cX5_high 1 (some .long) ∈ AG := List.mem_filter.mpr ⟨Q3_14i (List.mem_of_getElem? (i := 12) rfl), rfl⟩
theorem q_741 : Cond.methodLink RX5 160 yX3_highEnd ∈ AG := List.mem_filter.mpr ⟨Q3_14i (List.mem_of_getElem? (i := 13) rfl), rfl⟩
theorem q_742 : Cond.instanceMethod yX3_highEnd ∈ AG := List.mem_filter.mpr ⟨Q3_14i (List.mem_of_getElem? (i := 14) rfl), rfl⟩
theorem q_743 : Cond.selects RX3 yX3_highEnd yX3_highEnd ∈ AG := List.mem_filter.mpr ⟨Q3_14i (List.mem_of_getElem? (i := 15) rfl), rfl⟩
theorem q_744 : Cond.code yX3_highEnd cX3_highEnd 1 (some .long) ∈ AG := List.mem_filter.mpr ⟨Q4_0i (List.mem_of_getElem? (i := 0) rfl), rfl⟩
theorem q_745 : Cond.methodLink RL 144 yL_combined ∈ AG := List.mem_filter.mpr ⟨Q4_0i (List.mem_of_getElem? (i := 1) rfl), rfl⟩
theorem q_746 : Cond.static yL_combined ∈ AG := List.mem_filter.mpr ⟨Q4_0i (List.mem_of_getElem? (i := 2) rfl), rfl⟩
theorem q_747 : Cond.codeWith yL_combined cL_combined 2 (some .long) [(0, 4, 5, 22)] ∈ AG := List.mem_filter.mpr ⟨Q4_0i (List.mem_of_getElem? (i := 3) rfl), rfl⟩
theorem q_748 : Cond.methodLink RL 74 yX5_combinedOffset ∈ AG := List.mem_filter.mpr ⟨Q4_0i (List.mem_of_getElem? (i := 4) rfl), rfl⟩
theorem q_749 : Cond.instanceMethod yX5_combinedOffset ∈ AG := List.mem_filter.mpr ⟨Q4_0i (List.mem_of_getElem? (i := 5) rfl), rfl⟩
theorem q_750 : Cond.selects RX5 yX5_combinedOffset yX5_combinedOffset ∈ AG := List.mem_filter.mpr ⟨Q4_0i (List.mem_of_getElem? (i := 6) rfl), rfl⟩
theorem q_751 : Cond.code yX5_combinedOffset cX5_combinedOffset 1 (some .long) ∈ AG := List.mem_filter.mpr ⟨Q4_0i (List.mem_of_getElem? (i := 7) rfl), rfl⟩
theorem q_752 : Cond.constant RL 147 (1000001) ∈ AG := List.mem_filter.mpr ⟨Q4_0i (List.mem_of_getElem? (i := 8) rfl), rfl⟩
theorem q_753 : Cond.constant RL 148 (500001) ∈ AG := List.mem_filter.mpr ⟨Q4_0i (List.mem_of_getElem? (i := 9) rfl), rfl⟩
theorem q_754 : Cond.methodLink RL 208 yL_alike ∈ AG := List.mem_filter.mpr ⟨Q4_0i (List.mem_of_getElem? (i := 10) rfl), rfl⟩
theorem q_755 : Cond.static yL_alike ∈ AG := List.mem_filter.mpr ⟨Q4_0i (List.mem_of_getElem? (i := 11) rfl), rfl⟩
theorem q_756 : Cond.code yL_alike cL_alike 4 (some .boolean) ∈ AG := List.mem_filter.mpr ⟨Q4_0i (List.mem_of_getElem? (i := 12) rfl), rfl⟩
theorem q_757 : Cond.methodLink RL 149 yX5_trueTime ∈ AG := List.mem_filter.mpr ⟨Q4_0i (List.mem_of_getElem? (i := 13) rfl), rfl⟩
theorem q_758 : Cond.instanceMethod yX5_trueTime ∈ AG := List.mem_filter.mpr ⟨Q4_0i (List.mem_of_getElem? (i := 14) rfl), rfl⟩
theorem q_759 : Cond.selects RX5 yX5_trueTime yX5_trueTime ∈ AG := List.mem_filter.mpr ⟨Q4_0i (List.mem_of_getElem? (i := 15) rfl), rfl⟩
theorem q_760 : Cond.code yX5_trueTime cX5_trueTime 1 (some .long) ∈ AG := List.mem_filter.mpr ⟨Q4_1i (List.mem_of_getElem? (i := 0) rfl), rfl⟩
theorem q_761 : Cond.methodLink RL 158 yX5_pendingSlew ∈ AG := List.mem_filter.mpr ⟨Q4_1i (List.mem_of_getElem? (i := 1) rfl), rfl⟩
theorem q_762 : Cond.instanceMethod yX5_pendingSlew ∈ AG := List.mem_filter.mpr ⟨Q4_1i (List.mem_of_getElem? (i := 2) rfl), rfl⟩
theorem q_763 : Cond.selects RX5 yX5_pendingSlew yX5_pendingSlew ∈ AG := List.mem_filter.mpr ⟨Q4_1i (List.mem_of_getElem? (i := 3) rfl), rfl⟩
theorem q_764 : Cond.code yX5_pendingSlew cX5_pendingSlew 1 (some .long) ∈ AG := List.mem_filter.mpr ⟨Q4_1i (List.mem_of_getElem? (i := 4) rfl), rfl⟩
theorem q_765 : Cond.methodLink RX5 72 yX1_pendingMicros ∈ AG := List.mem_filter.mpr ⟨Q4_1i (List.mem_of_getElem? (i := 5) rfl), rfl⟩
theorem q_766 : Cond.instanceMethod yX1_pendingMicros ∈ AG := List.mem_filter.mpr ⟨Q4_1i (List.mem_of_getElem? (i := 6) rfl), rfl⟩
theorem q_767 : Cond.selects RX1 yX1_pendingMicros yX1_pendingMicros ∈ AG := List.mem_filter.mpr ⟨Q4_1i (List.mem_of_getElem? (i := 7) rfl), rfl⟩
theorem q_768 : Cond.code yX1_pendingMicros cX1_pendingMicros 1 (some .long) ∈ AG := List.mem_filter.mpr ⟨Q4_1i (List.mem_of_getElem? (i := 8) rfl), rfl⟩
theorem q_769 : Cond.methodLink RL 161 yX5_correction ∈ AG := List.mem_filter.mpr ⟨Q4_1i (List.mem_of_getElem? (i := 9) rfl), rfl⟩
theorem q_770 : Cond.instanceMethod yX5_correction ∈ AG := List.mem_filter.mpr ⟨Q4_1i (List.mem_of_getElem? (i := 10) rfl), rfl⟩
theorem q_771 : Cond.selects RX5 yX5_correction yX5_correction ∈ AG := List.mem_filter.mpr ⟨Q4_1i (List.mem_of_getElem? (i := 11) rfl), rfl⟩
theorem q_772 : Cond.code yX5_correction cX5_correction 1 (some .int) ∈ AG := List.mem_filter.mpr ⟨Q4_1i (List.mem_of_getElem? (i := 12) rfl), rfl⟩
theorem q_773 : Cond.methodLink RX5 75 yX1_presentCorrection ∈ AG := List.mem_filter.mpr ⟨Q4_1i (List.mem_of_getElem? (i := 13) rfl), rfl⟩
theorem q_774 : Cond.instanceMethod yX1_presentCorrection ∈ AG := List.mem_filter.mpr ⟨Q4_1i (List.mem_of_getElem? (i := 14) rfl), rfl⟩
theorem q_775 : Cond.selects RX1 yX1_presentCorrection yX1_presentCorrection ∈ AG := List.mem_filter.mpr ⟨Q4_1i (List.mem_of_getElem? (i := 15) rfl), rfl⟩
theorem q_776 : Cond.code yX1_presentCorrection cX1_presentCorrection 1 (some .int) ∈ AG := List.mem_filter.mpr ⟨Q4_2i (List.mem_of_getElem? (i := 0) rfl), rfl⟩
theorem q_777 : Cond.methodLink RL 164 yX5_agreeing ∈ AG := List.mem_filter.mpr ⟨Q4_2i (List.mem_of_getElem? (i := 1) rfl), rfl⟩
theorem q_778 : Cond.instanceMethod yX5_agreeing ∈ AG := List.mem_filter.mpr ⟨Q4_2i (List.mem_of_getElem? (i := 2) rfl), rfl⟩
theorem q_779 : Cond.selects RX5 yX5_agreeing yX5_agreeing ∈ AG := List.mem_filter.mpr ⟨Q4_2i (List.mem_of_getElem? (i := 3) rfl), rfl⟩
theorem q_780 : Cond.code yX5_agreeing cX5_agreeing 1 (some .int) ∈ AG := List.mem_filter.mpr ⟨Q4_2i (List.mem_of_getElem? (i := 4) rfl), rfl⟩
theorem q_781 : Cond.methodLink RX5 151 yX3_agreeingBits ∈ AG := List.mem_filter.mpr ⟨Q4_2i (List.mem_of_getElem? (i := 5) rfl), rfl⟩
theorem q_782 : Cond.instanceMethod yX3_agreeingBits ∈ AG := List.mem_filter.mpr ⟨Q4_2i (List.mem_of_getElem? (i := 6) rfl), rfl⟩
theorem q_783 : Cond.selects RX3 yX3_agreeingBits yX3_agreeingBits ∈ AG := List.mem_filter.mpr ⟨Q4_2i (List.mem_of_getElem? (i := 7) rfl), rfl⟩
theorem q_784 : Cond.code yX3_agreeingBits cX3_agreeingBits 1 (some .int) ∈ AG := List.mem_filter.mpr ⟨Q4_2i (List.mem_of_getElem? (i := 8) rfl), rfl⟩
theorem q_785 : Cond.methodLink RL 167 yX5_survivors ∈ AG := List.mem_filter.mpr ⟨Q4_2i (List.mem_of_getElem? (i := 9) rfl), rfl⟩
theorem q_786 : Cond.instanceMethod yX5_survivors ∈ AG := List.mem_filter.mpr ⟨Q4_2i (List.mem_of_getElem? (i := 10) rfl), rfl⟩
theorem q_787 : Cond.selects RX5 yX5_survivors yX5_survivors ∈ AG := List.mem_filter.mpr ⟨Q4_2i (List.mem_of_getElem? (i := 11) rfl), rfl⟩
theorem q_788 : Cond.code yX5_survivors cX5_survivors 1 (some .int) ∈ AG := List.mem_filter.mpr ⟨Q4_2i (List.mem_of_getElem? (i := 12) rfl), rfl⟩
theorem q_789 : Cond.methodLink RX5 163 yX3_survivorBits ∈ AG := List.mem_filter.mpr ⟨Q4_2i (List.mem_of_getElem? (i := 13) rfl), rfl⟩
theorem q_790 : Cond.instanceMethod yX3_survivorBits ∈ AG := List.mem_filter.mpr ⟨Q4_2i (List.mem_of_getElem? (i := 14) rfl), rfl⟩
theorem q_791 : Cond.selects RX3 yX3_survivorBits yX3_survivorBits ∈ AG := List.mem_filter.mpr ⟨Q4_2i (List.mem_of_getElem? (i := 15) rfl), rfl⟩
theorem q_792 : Cond.code yX3_survivorBits cX3_survivorBits 1 (some .int) ∈ AG := List.mem_filter.mpr ⟨Q4_3i (List.mem_of_getElem? (i := 0) rfl), rfl⟩
theorem q_793 : Cond.methodLink RL 170 yX5_peer ∈ AG := List.mem_filter.mpr ⟨Q4_3i (List.mem_of_getElem? (i := 1) rfl), rfl⟩
theorem q_794 : Cond.instanceMethod yX5_peer ∈ AG := List.mem_filter.mpr ⟨Q4_3i (List.mem_of_getElem? (i := 2) rfl), rfl⟩
theorem q_795 : Cond.selects RX5 yX5_peer yX5_peer ∈ AG := List.mem_filter.mpr ⟨Q4_3i (List.mem_of_getElem? (i := 3) rfl), rfl⟩
theorem q_796 : Cond.code yX5_peer cX5_peer 1 (some .int) ∈ AG := List.mem_filter.mpr ⟨Q4_3i (List.mem_of_getElem? (i := 4) rfl), rfl⟩
theorem q_797 : Cond.methodLink RL 173 yX5_stratum ∈ AG := List.mem_filter.mpr ⟨Q4_3i (List.mem_of_getElem? (i := 5) rfl), rfl⟩
theorem q_798 : Cond.instanceMethod yX5_stratum ∈ AG := List.mem_filter.mpr ⟨Q4_3i (List.mem_of_getElem? (i := 6) rfl), rfl⟩
theorem q_799 : Cond.selects RX5 yX5_stratum yX5_stratum ∈ AG := List.mem_filter.mpr ⟨Q4_3i (List.mem_of_getElem? (i := 7) rfl), rfl⟩
theorem q_800 : Cond.code yX5_stratum cX5_stratum 1 (some .int) ∈ AG := List.mem_filter.mpr ⟨Q4_3i (List.mem_of_getElem? (i := 8) rfl), rfl⟩
theorem q_801 : Cond.methodLink RL 176 yX5_steps ∈ AG := List.mem_filter.mpr ⟨Q4_3i (List.mem_of_getElem? (i := 9) rfl), rfl⟩
theorem q_802 : Cond.instanceMethod yX5_steps ∈ AG := List.mem_filter.mpr ⟨Q4_3i (List.mem_of_getElem? (i := 10) rfl), rfl⟩
theorem q_803 : Cond.selects RX5 yX5_steps yX5_steps ∈ AG := List.mem_filter.mpr ⟨Q4_3i (List.mem_of_getElem? (i := 11) rfl), rfl⟩
theorem q_804 : Cond.code yX5_steps cX5_steps 1 (some .int) ∈ AG := List.mem_filter.mpr ⟨Q4_3i (List.mem_of_getElem? (i := 12) rfl), rfl⟩
theorem q_805 : Cond.methodLink RL 179 yX5_synchronizations ∈ AG := List.mem_filter.mpr ⟨Q4_3i (List.mem_of_getElem? (i := 13) rfl), rfl⟩
theorem q_806 : Cond.instanceMethod yX5_synchronizations ∈ AG := List.mem_filter.mpr ⟨Q4_3i (List.mem_of_getElem? (i := 14) rfl), rfl⟩
theorem q_807 : Cond.selects RX5 yX5_synchronizations yX5_synchronizations ∈ AG := List.mem_filter.mpr ⟨Q4_3i (List.mem_of_getElem? (i := 15) rfl), rfl⟩
theorem q_808 : Cond.code yX5_synchronizations cX5_synchronizations 1 (some .int) ∈ AG := List.mem_filter.mpr ⟨Q4_4i (List.mem_of_getElem? (i := 0) rfl), rfl⟩
theorem q_809 : Cond.methodLink RL 212 yL_holds ∈ AG := List.mem_filter.mpr ⟨Q4_4i (List.mem_of_getElem? (i := 1) rfl), rfl⟩
theorem q_810 : Cond.static yL_holds ∈ AG := List.mem_filter.mpr ⟨Q4_4i (List.mem_of_getElem? (i := 2) rfl), rfl⟩
theorem q_811 : Cond.code yL_holds cL_holds 14 (some .boolean) ∈ AG := List.mem_filter.mpr ⟨Q4_4i (List.mem_of_getElem? (i := 3) rfl), rfl⟩
theorem q_812 : Cond.constantLong RL 182 (9000000000000000) ∈ AG := List.mem_filter.mpr ⟨Q4_4i (List.mem_of_getElem? (i := 4) rfl), rfl⟩
theorem q_813 : Cond.constantLong RL 184 (-9000000000000000) ∈ AG := List.mem_filter.mpr ⟨Q4_4i (List.mem_of_getElem? (i := 5) rfl), rfl⟩
theorem q_814 : Cond.methodLink RL 204 yL_acts ∈ AG := List.mem_filter.mpr ⟨Q4_4i (List.mem_of_getElem? (i := 6) rfl), rfl⟩
theorem q_815 : Cond.static yL_acts ∈ AG := List.mem_filter.mpr ⟨Q4_4i (List.mem_of_getElem? (i := 7) rfl), rfl⟩
theorem q_816 : Cond.code yL_acts cL_acts 11 (some .boolean) ∈ AG := List.mem_filter.mpr ⟨Q4_4i (List.mem_of_getElem? (i := 8) rfl), rfl⟩
theorem q_817 : Cond.constant RL 186 (400001) ∈ AG := List.mem_filter.mpr ⟨Q4_4i (List.mem_of_getElem? (i := 9) rfl), rfl⟩
theorem q_818 : Cond.constant RL 187 (200000) ∈ AG := List.mem_filter.mpr ⟨Q4_4i (List.mem_of_getElem? (i := 10) rfl), rfl⟩
theorem q_819 : Cond.constant RL 188 (100000) ∈ AG := List.mem_filter.mpr ⟨Q4_4i (List.mem_of_getElem? (i := 11) rfl), rfl⟩
theorem q_820 : Cond.constant RL 189 (900000000) ∈ AG := List.mem_filter.mpr ⟨Q4_4i (List.mem_of_getElem? (i := 12) rfl), rfl⟩
theorem q_821 : Cond.methodLink RL 216 yL_slews ∈ AG := List.mem_filter.mpr ⟨Q4_4i (List.mem_of_getElem? (i := 13) rfl), rfl⟩
theorem q_822 : Cond.static yL_slews ∈ AG := List.mem_filter.mpr ⟨Q4_4i (List.mem_of_getElem? (i := 14) rfl), rfl⟩
theorem q_823 : Cond.code yL_slews cL_slews 14 (some .boolean) ∈ AG := List.mem_filter.mpr ⟨Q4_4i (List.mem_of_getElem? (i := 15) rfl), rfl⟩
theorem q_824 : Cond.constantLong RL 191 (128000) ∈ AG := List.mem_filter.mpr ⟨Q4_5i (List.mem_of_getElem? (i := 0) rfl), rfl⟩
theorem q_825 : Cond.constant RL 193 (1000000000) ∈ AG := List.mem_filter.mpr ⟨Q4_5i (List.mem_of_getElem? (i := 1) rfl), rfl⟩
theorem q_826 : Cond.constant RL 198 (2000001) ∈ AG := List.mem_filter.mpr ⟨Q4_5i (List.mem_of_getElem? (i := 2) rfl), rfl⟩
theorem q_827 : Cond.constant RL 199 (1000000) ∈ AG := List.mem_filter.mpr ⟨Q4_5i (List.mem_of_getElem? (i := 3) rfl), rfl⟩
def NG : List Cond := [Cond.methodLinkNest RX5 9 yX1_init "Clockhouse", Cond.methodLinkNest RX5 18 yX0_init "Clockhouse", Cond.arrayOver (.object "Clockhouse$Server"), Cond.methodLinkNest RX5 31 yX3_init "Clockhouse", Cond.methodLinkNest RX3 11 yX2_init "Clockhouse", Cond.methodLinkNest RX5 36 yX4_init "Clockhouse", Cond.methodLinkNest RX4 11 yX2_init "Clockhouse", Cond.castable "java/lang/IllegalArgumentException" "java/lang/IllegalArgumentException", Cond.declares ⟨"java/lang/RuntimeException", "<init>", "()V"⟩, Cond.declares ⟨"java/lang/RuntimeException", "<init>", "(Ljava/lang/String;)V"⟩, Cond.declares ⟨"java/lang/Exception", "<init>", "()V"⟩, Cond.declares ⟨"java/lang/Exception", "<init>", "(Ljava/lang/String;)V"⟩, Cond.declares ⟨"java/lang/Throwable", "<init>", "()V"⟩, Cond.declares ⟨"java/lang/Throwable", "<init>", "(Ljava/lang/String;)V"⟩, Cond.castable "java/lang/IllegalStateException" "java/lang/IllegalStateException", Cond.castable "java/lang/IndexOutOfBoundsException" "java/lang/IndexOutOfBoundsException"]
theorem NG_tbl : ∀ w ∈ NG, w ∈ lw_tbl := (List.forall_mem_cons.mpr ⟨Q1_1i (List.mem_of_getElem? (i := 9) rfl), (List.forall_mem_cons.mpr ⟨Q1_2i (List.mem_of_getElem? (i := 12) rfl), (List.forall_mem_cons.mpr ⟨Q1_3i (List.mem_of_getElem? (i := 8) rfl), (List.forall_mem_cons.mpr ⟨Q1_3i (List.mem_of_getElem? (i := 11) rfl), (List.forall_mem_cons.mpr ⟨Q1_4i (List.mem_of_getElem? (i := 1) rfl), (List.forall_mem_cons.mpr ⟨Q1_6i (List.mem_of_getElem? (i := 7) rfl), (List.forall_mem_cons.mpr ⟨Q1_6i (List.mem_of_getElem? (i := 12) rfl), (List.forall_mem_cons.mpr ⟨Q1_14i (List.mem_of_getElem? (i := 4) rfl), (List.forall_mem_cons.mpr ⟨Q1_14i (List.mem_of_getElem? (i := 5) rfl), (List.forall_mem_cons.mpr ⟨Q1_14i (List.mem_of_getElem? (i := 6) rfl), (List.forall_mem_cons.mpr ⟨Q1_14i (List.mem_of_getElem? (i := 7) rfl), (List.forall_mem_cons.mpr ⟨Q1_14i (List.mem_of_getElem? (i := 8) rfl), (List.forall_mem_cons.mpr ⟨Q1_14i (List.mem_of_getElem? (i := 9) rfl), (List.forall_mem_cons.mpr ⟨Q1_14i (List.mem_of_getElem? (i := 10) rfl), (List.forall_mem_cons.mpr ⟨Q2_4i (List.mem_of_getElem? (i := 14) rfl), (List.forall_mem_cons.mpr ⟨Q2_11i (List.mem_of_getElem? (i := 4) rfl), (List.forall_mem_nil _)⟩)⟩)⟩)⟩)⟩)⟩)⟩)⟩)⟩)⟩)⟩)⟩)⟩)⟩)⟩)⟩)
