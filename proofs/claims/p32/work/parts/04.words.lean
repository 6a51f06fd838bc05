def Q0_0 : List Cond := [Cond.selects RX5 yX5_begin yX5_begin, Cond.selects RX5 yX5_select yX5_select, Cond.selects RX5 yX5_serverOrNull yX5_serverOrNull, Cond.selects RX5 yX5_roomOrNull yX5_roomOrNull, Cond.selects RX3 yX3_tryLowEnd yX3_tryLowEnd, Cond.selects RX3 yX3_intervalsWith yX3_intervalsWith, Cond.selects RX3 yX3_leastUpperEnd yX3_leastUpperEnd, Cond.selects RX3 yX3_widestSpread yX3_widestSpread, Cond.selects RX3 yX3_spread yX3_spread, Cond.selects RX3 yX3_leastJitter yX3_leastJitter, Cond.selects RX3 yX3_isBetter yX3_isBetter, Cond.selects "java/lang/Throwable" ⟨"java/lang/Throwable", "fillInStackTrace", "(I)Ljava/lang/Throwable;"⟩ ⟨"java/lang/Throwable", "fillInStackTrace", "(I)Ljava/lang/Throwable;"⟩, Cond.selects RX5 yX5_isBeyondLastTrueTime yX5_isBeyondLastTrueTime, Cond.selects RX5 yX5_elapse yX5_elapse, Cond.selects RX5 yX5_knownServer yX5_knownServer, Cond.selects RX5 yX5_takeSample yX5_takeSample]
def Q0_1 : List Cond := [Cond.selects RX4 yX4_leastDelay yX4_leastDelay, Cond.selects RX5 yX5_heardServer yX5_heardServer, Cond.selects RX5 yX5_selectFromSome yX5_selectFromSome, Cond.selects RX3 yX3_weight yX3_weight, Cond.selects RX5 yX5_correctRate yX5_correctRate, Cond.selects RX5 yX5_correctTime yX5_correctTime, Cond.selects RX5 yX5_takeStratumOfPeer yX5_takeStratumOfPeer, Cond.selects RX5 yX5_forgetSamples yX5_forgetSamples, Cond.selects RX6 yX6_refused yX6_refused, Cond.selects RX6 yX6_goOn yX6_goOn, Cond.selects RX6 yX6_reading yX6_reading, Cond.selects RX6 yX6_fineLong yX6_fineLong, Cond.selects RX6 yX6_fine yX6_fine, Cond.selects RX6 yX6_isServer yX6_isServer, Cond.selects RX6 yX6_keep yX6_keep, Cond.selects RX6 yX6_noSample yX6_noSample]
def Q0_2 : List Cond := [Cond.selects RX6 yX6_best yX6_best, Cond.selects RX6 yX6_jitterOf yX6_jitterOf, Cond.selects RX6 yX6_distanceOf yX6_distanceOf, Cond.selects RX6 yX6_intersect yX6_intersect, Cond.selects RX6 yX6_from yX6_from, Cond.selects RX6 yX6_covers yX6_covers, Cond.selects RX6 yX6_has yX6_has, Cond.selects RX6 yX6_to yX6_to, Cond.selects RX6 yX6_select yX6_select, Cond.selects RX6 yX6_surviving yX6_surviving, Cond.selects RX6 yX6_removes yX6_removes, Cond.selects RX6 yX6_spread yX6_spread, Cond.selects RX6 yX6_combined yX6_combined, Cond.selects RX6 yX6_leader yX6_leader]
set_option maxRecDepth 100000 in
theorem Qe0 : k2_sels lw_privs = Q0_0 ++ (Q0_1 ++ (Q0_2)) := rfl
theorem Q0_0i {w : Cond} (h : w ∈ Q0_0) : w ∈ lw_tbl := List.mem_append_left _ (by rw [Qe0]; exact List.mem_append_left _ h)
theorem Q0_1i {w : Cond} (h : w ∈ Q0_1) : w ∈ lw_tbl := List.mem_append_left _ (by rw [Qe0]; exact List.mem_append_right _ (List.mem_append_left _ h))
theorem Q0_2i {w : Cond} (h : w ∈ Q0_2) : w ∈ lw_tbl := List.mem_append_left _ (by rw [Qe0]; exact List.mem_append_right _ (List.mem_append_right _ (h)))
def Q1_0 : List Cond := [Cond.initialized RL, Cond.initialized RX5, Cond.initialized RX1, Cond.initialized RX0, Cond.initialized RX3, Cond.initialized RX2, Cond.initialized RX4, Cond.initialized RX6, Cond.initialized "java/lang/Throwable", Cond.initialized "java/lang/Exception", Cond.initialized "java/lang/RuntimeException", Cond.initialized "java/lang/IllegalArgumentException", Cond.initialized "java/lang/IllegalStateException", Cond.initialized RJ9, Cond.initialized "java/lang/IndexOutOfBoundsException", Cond.initialized RJ6]
def Q1_1 : List Cond := [Cond.classLink RL 8 RX5, Cond.instantiable RX5 10, Cond.methodLink RL 72 yX5_init, Cond.instanceMethod yX5_init, Cond.code yX5_init cX5_init 2 none, Cond.methodLink RX5 1 objectInit, Cond.instanceMethod objectInit, Cond.code objectInit ⟨#[0xb1]⟩ 1 none, Cond.classLink RX5 7 RX1, Cond.instantiable RX1 4, Cond.methodLinkNest RX5 9 yX1_init "Clockhouse", Cond.instanceMethod yX1_init, Cond.code yX1_init cX1_init 1 none, Cond.methodLink RX1 3 objectInit, Cond.fieldLink RX1 11 "Clockhouse$Oscillator" "picos" "J", Cond.fieldLink RX1 17 "Clockhouse$Oscillator" "pendingPicos" "J"]
def Q1_2 : List Cond := [Cond.fieldLink RX1 20 "Clockhouse$Oscillator" "driftRate" "I", Cond.fieldLink RX1 24 "Clockhouse$Oscillator" "correctionRate" "I", Cond.lays "Clockhouse$Oscillator" "Clockhouse$Oscillator" "picos" "J", Cond.soleField "Clockhouse$Oscillator" "picos", Cond.lays "Clockhouse$Oscillator" "Clockhouse$Oscillator" "pendingPicos" "J", Cond.soleField "Clockhouse$Oscillator" "pendingPicos", Cond.lays "Clockhouse$Oscillator" "Clockhouse$Oscillator" "driftRate" "I", Cond.soleField "Clockhouse$Oscillator" "driftRate", Cond.lays "Clockhouse$Oscillator" "Clockhouse$Oscillator" "correctionRate" "I", Cond.soleField "Clockhouse$Oscillator" "correctionRate", Cond.superclass "Clockhouse$Oscillator" "java/lang/Object", Cond.classLink RX5 16 RX0, Cond.instantiable RX0 2, Cond.methodLinkNest RX5 18 yX0_init "Clockhouse", Cond.instanceMethod yX0_init, Cond.code yX0_init cX0_init 1 none]
def Q1_3 : List Cond := [Cond.methodLink RX0 1 objectInit, Cond.fieldLink RX0 13 "Clockhouse$LeapSeconds" "inserted" "I", Cond.fieldLink RX0 17 "Clockhouse$LeapSeconds" "deleted" "I", Cond.lays "Clockhouse$LeapSeconds" "Clockhouse$LeapSeconds" "inserted" "I", Cond.soleField "Clockhouse$LeapSeconds" "inserted", Cond.lays "Clockhouse$LeapSeconds" "Clockhouse$LeapSeconds" "deleted" "I", Cond.soleField "Clockhouse$LeapSeconds" "deleted", Cond.superclass "Clockhouse$LeapSeconds" "java/lang/Object", Cond.classLink RX5 23 RX4, Cond.arrayOver (.object "Clockhouse$Server"), Cond.classLink RX5 29 RX3, Cond.instantiable RX3 9, Cond.methodLinkNest RX5 31 yX3_init "Clockhouse", Cond.instanceMethod yX3_init, Cond.code yX3_init cX3_init 1 none, Cond.methodLink RX3 3 objectInit]
def Q1_4 : List Cond := [Cond.classLink RX3 9 RX2, Cond.instantiable RX2 1, Cond.methodLinkNest RX3 11 yX2_init "Clockhouse", Cond.instanceMethod yX2_init, Cond.code yX2_init cX2_init 1 none, Cond.methodLink RX2 1 objectInit, Cond.fieldLink RX2 9 "Clockhouse$Row" "cells" "[J", Cond.laysFinal "Clockhouse$Row" "Clockhouse$Row" "cells" "[J", Cond.soleField "Clockhouse$Row" "cells", Cond.superclass "Clockhouse$Row" "java/lang/Object", Cond.arrayClass .long, Cond.fieldLink RX3 12 "Clockhouse$Selection" "offsets" "LClockhouse$Row;", Cond.fieldLink RX3 18 "Clockhouse$Selection" "distances" "LClockhouse$Row;", Cond.fieldLink RX3 21 "Clockhouse$Selection" "jitters" "LClockhouse$Row;", Cond.fieldLink RX3 24 "Clockhouse$Selection" "strata" "LClockhouse$Row;", Cond.fieldLink RX3 27 "Clockhouse$Selection" "candidateSet" "I"]
def Q1_5 : List Cond := [Cond.fieldLink RX3 31 "Clockhouse$Selection" "agreeingSet" "I", Cond.fieldLink RX3 34 "Clockhouse$Selection" "survivorSet" "I", Cond.fieldLink RX3 37 "Clockhouse$Selection" "lowest" "J", Cond.fieldLink RX3 41 "Clockhouse$Selection" "highest" "J", Cond.laysFinal "Clockhouse$Selection" "Clockhouse$Selection" "offsets" "LClockhouse$Row;", Cond.soleField "Clockhouse$Selection" "offsets", Cond.laysFinal "Clockhouse$Selection" "Clockhouse$Selection" "distances" "LClockhouse$Row;", Cond.soleField "Clockhouse$Selection" "distances", Cond.laysFinal "Clockhouse$Selection" "Clockhouse$Selection" "jitters" "LClockhouse$Row;", Cond.soleField "Clockhouse$Selection" "jitters", Cond.laysFinal "Clockhouse$Selection" "Clockhouse$Selection" "strata" "LClockhouse$Row;", Cond.soleField "Clockhouse$Selection" "strata", Cond.lays "Clockhouse$Selection" "Clockhouse$Selection" "candidateSet" "I", Cond.soleField "Clockhouse$Selection" "candidateSet", Cond.lays "Clockhouse$Selection" "Clockhouse$Selection" "agreeingSet" "I", Cond.soleField "Clockhouse$Selection" "agreeingSet"]
def Q1_6 : List Cond := [Cond.lays "Clockhouse$Selection" "Clockhouse$Selection" "survivorSet" "I", Cond.soleField "Clockhouse$Selection" "survivorSet", Cond.lays "Clockhouse$Selection" "Clockhouse$Selection" "lowest" "J", Cond.soleField "Clockhouse$Selection" "lowest", Cond.lays "Clockhouse$Selection" "Clockhouse$Selection" "highest" "J", Cond.soleField "Clockhouse$Selection" "highest", Cond.superclass "Clockhouse$Selection" "java/lang/Object", Cond.instantiable RX4 9, Cond.methodLinkNest RX5 36 yX4_init "Clockhouse", Cond.instanceMethod yX4_init, Cond.code yX4_init cX4_init 1 none, Cond.methodLink RX4 3 objectInit, Cond.classLink RX4 9 RX2, Cond.methodLinkNest RX4 11 yX2_init "Clockhouse", Cond.fieldLink RX4 12 "Clockhouse$Server" "offsets" "LClockhouse$Row;", Cond.fieldLink RX4 18 "Clockhouse$Server" "delays" "LClockhouse$Row;"]
def Q1_7 : List Cond := [Cond.fieldLink RX4 21 "Clockhouse$Server" "times" "LClockhouse$Row;", Cond.fieldLink RX4 41 "Clockhouse$Server" "count" "I", Cond.fieldLink RX4 44 "Clockhouse$Server" "best" "I", Cond.fieldLink RX4 24 "Clockhouse$Server" "level" "I", Cond.fieldLink RX4 28 "Clockhouse$Server" "clockError" "I", Cond.fieldLink RX4 31 "Clockhouse$Server" "rootDelay" "J", Cond.fieldLink RX4 35 "Clockhouse$Server" "rootDispersion" "J", Cond.laysFinal "Clockhouse$Server" "Clockhouse$Server" "offsets" "LClockhouse$Row;", Cond.soleField "Clockhouse$Server" "offsets", Cond.laysFinal "Clockhouse$Server" "Clockhouse$Server" "delays" "LClockhouse$Row;", Cond.soleField "Clockhouse$Server" "delays", Cond.laysFinal "Clockhouse$Server" "Clockhouse$Server" "times" "LClockhouse$Row;", Cond.soleField "Clockhouse$Server" "times", Cond.lays "Clockhouse$Server" "Clockhouse$Server" "count" "I", Cond.soleField "Clockhouse$Server" "count", Cond.lays "Clockhouse$Server" "Clockhouse$Server" "best" "I"]
def Q1_8 : List Cond := [Cond.soleField "Clockhouse$Server" "best", Cond.lays "Clockhouse$Server" "Clockhouse$Server" "level" "I", Cond.soleField "Clockhouse$Server" "level", Cond.lays "Clockhouse$Server" "Clockhouse$Server" "clockError" "I", Cond.soleField "Clockhouse$Server" "clockError", Cond.lays "Clockhouse$Server" "Clockhouse$Server" "rootDelay" "J", Cond.soleField "Clockhouse$Server" "rootDelay", Cond.lays "Clockhouse$Server" "Clockhouse$Server" "rootDispersion" "J", Cond.soleField "Clockhouse$Server" "rootDispersion", Cond.superclass "Clockhouse$Server" "java/lang/Object", Cond.methodLink RX5 37 yX5_begin, Cond.privateMethod yX5_begin, Cond.instanceMethod yX5_begin, Cond.code yX5_begin cX5_begin 2 none, Cond.methodLink RX5 199 yX1_begin, Cond.instanceMethod yX1_begin]
def Q1_9 : List Cond := [Cond.selects RX1 yX1_begin yX1_begin, Cond.code yX1_begin cX1_begin 2 none, Cond.constantLong RX1 9 (1000000), Cond.methodLink RX5 200 yX0_clear, Cond.instanceMethod yX0_clear, Cond.selects RX0 yX0_clear yX0_clear, Cond.code yX0_clear cX0_clear 1 none, Cond.fieldLink RX5 10 "Clockhouse" "oscillator" "LClockhouse$Oscillator;", Cond.fieldLink RX5 19 "Clockhouse" "leapSeconds" "LClockhouse$LeapSeconds;", Cond.fieldLink RX5 25 "Clockhouse" "rooms" "[LClockhouse$Server;", Cond.fieldLink RX5 32 "Clockhouse" "selection" "LClockhouse$Selection;", Cond.fieldLink RX5 99 "Clockhouse" "serverCount" "I", Cond.fieldLink RX5 68 "Clockhouse" "truth" "J", Cond.fieldLink RX5 192 "Clockhouse" "clientStratum" "I", Cond.fieldLink RX5 195 "Clockhouse" "stepCount" "I", Cond.fieldLink RX5 189 "Clockhouse" "synchronizationCount" "I"]
def Q1_10 : List Cond := [Cond.fieldLink RX5 186 "Clockhouse" "readingBehindSynchronization" "J", Cond.laysFinal "Clockhouse" "Clockhouse" "oscillator" "LClockhouse$Oscillator;", Cond.soleField "Clockhouse" "oscillator", Cond.laysFinal "Clockhouse" "Clockhouse" "leapSeconds" "LClockhouse$LeapSeconds;", Cond.soleField "Clockhouse" "leapSeconds", Cond.laysFinal "Clockhouse" "Clockhouse" "rooms" "[LClockhouse$Server;", Cond.soleField "Clockhouse" "rooms", Cond.laysFinal "Clockhouse" "Clockhouse" "selection" "LClockhouse$Selection;", Cond.soleField "Clockhouse" "selection", Cond.lays "Clockhouse" "Clockhouse" "serverCount" "I", Cond.soleField "Clockhouse" "serverCount", Cond.lays "Clockhouse" "Clockhouse" "truth" "J", Cond.soleField "Clockhouse" "truth", Cond.lays "Clockhouse" "Clockhouse" "clientStratum" "I", Cond.soleField "Clockhouse" "clientStratum", Cond.lays "Clockhouse" "Clockhouse" "stepCount" "I"]
def Q1_11 : List Cond := [Cond.soleField "Clockhouse" "stepCount", Cond.lays "Clockhouse" "Clockhouse" "synchronizationCount" "I", Cond.soleField "Clockhouse" "synchronizationCount", Cond.lays "Clockhouse" "Clockhouse" "readingBehindSynchronization" "J", Cond.soleField "Clockhouse" "readingBehindSynchronization", Cond.superclass "Clockhouse" "java/lang/Object", Cond.methodLink RL 89 yX5_trueTime, Cond.instanceMethod yX5_trueTime, Cond.selects RX5 yX5_trueTime yX5_trueTime, Cond.code yX5_trueTime cX5_trueTime 1 (some .long), Cond.methodLink RL 93 yX5_clock, Cond.instanceMethod yX5_clock, Cond.selects RX5 yX5_clock yX5_clock, Cond.code yX5_clock cX5_clock 1 (some .long), Cond.methodLink RX5 60 yX1_reading, Cond.instanceMethod yX1_reading]
def Q1_12 : List Cond := [Cond.selects RX1 yX1_reading yX1_reading, Cond.code yX1_reading cX1_reading 1 (some .long), Cond.methodLink RX1 27 yJ9_floorDiv_f86c9, Cond.static yJ9_floorDiv_f86c9, Cond.code yJ9_floorDiv_f86c9 cJ9_floorDiv_f86c9 6 (some .long), Cond.methodLink RL 97 yX5_error, Cond.instanceMethod yX5_error, Cond.selects RX5 yX5_error yX5_error, Cond.code yX5_error cX5_error 1 (some .long), Cond.methodLink RL 101 yX5_pendingSlew, Cond.instanceMethod yX5_pendingSlew, Cond.selects RX5 yX5_pendingSlew yX5_pendingSlew, Cond.code yX5_pendingSlew cX5_pendingSlew 1 (some .long), Cond.methodLink RX5 72 yX1_pendingMicros, Cond.instanceMethod yX1_pendingMicros, Cond.selects RX1 yX1_pendingMicros yX1_pendingMicros]
def Q1_13 : List Cond := [Cond.code yX1_pendingMicros cX1_pendingMicros 1 (some .long), Cond.methodLink RL 105 yX5_correction, Cond.instanceMethod yX5_correction, Cond.selects RX5 yX5_correction yX5_correction, Cond.code yX5_correction cX5_correction 1 (some .int), Cond.methodLink RX5 75 yX1_presentCorrection, Cond.instanceMethod yX1_presentCorrection, Cond.selects RX1 yX1_presentCorrection yX1_presentCorrection, Cond.code yX1_presentCorrection cX1_presentCorrection 1 (some .int), Cond.methodLink RL 113 yX5_civil, Cond.instanceMethod yX5_civil, Cond.selects RX5 yX5_civil yX5_civil, Cond.code yX5_civil cX5_civil 1 (some .long), Cond.methodLink RX5 91 yX0_civilTime, Cond.instanceMethod yX0_civilTime, Cond.selects RX0 yX0_civilTime yX0_civilTime]
def Q1_14 : List Cond := [Cond.code yX0_civilTime cX0_civilTime 6 (some .long), Cond.methodLink RX0 20 yX0_contains, Cond.static yX0_contains, Cond.code yX0_contains cX0_contains 2 (some .boolean), Cond.methodLink RX0 24 yX0_partCome, Cond.static yX0_partCome, Cond.code yX0_partCome cX0_partCome 5 (some .long), Cond.methodLink RX0 28 yX0_smearBeginning, Cond.static yX0_smearBeginning, Cond.code yX0_smearBeginning cX0_smearBeginning 1 (some .long), Cond.constantLong RX0 9 (86400000000), Cond.constantLong RX0 11 (20000000000), Cond.constantLong RX0 32 (20000), Cond.constantLong RX0 34 (1000000), Cond.methodLink RL 128 yX5_servers, Cond.instanceMethod yX5_servers]
set_option maxRecDepth 100000 in
theorem Qe1 : tables_1_1 = Q1_0 ++ (Q1_1 ++ (Q1_2 ++ (Q1_3 ++ (Q1_4 ++ (Q1_5 ++ (Q1_6 ++ (Q1_7 ++ (Q1_8 ++ (Q1_9 ++ (Q1_10 ++ (Q1_11 ++ (Q1_12 ++ (Q1_13 ++ (Q1_14)))))))))))))) := rfl
theorem Q1_0i {w : Cond} (h : w ∈ Q1_0) : w ∈ lw_tbl := List.mem_append_right _ (List.mem_append_left _ (by rw [Qe1]; exact List.mem_append_left _ h))
theorem Q1_1i {w : Cond} (h : w ∈ Q1_1) : w ∈ lw_tbl := List.mem_append_right _ (List.mem_append_left _ (by rw [Qe1]; exact List.mem_append_right _ (List.mem_append_left _ h)))
theorem Q1_2i {w : Cond} (h : w ∈ Q1_2) : w ∈ lw_tbl := List.mem_append_right _ (List.mem_append_left _ (by rw [Qe1]; exact List.mem_append_right _ (List.mem_append_right _ (List.mem_append_left _ h))))
theorem Q1_3i {w : Cond} (h : w ∈ Q1_3) : w ∈ lw_tbl := List.mem_append_right _ (List.mem_append_left _ (by rw [Qe1]; exact List.mem_append_right _ (List.mem_append_right _ (List.mem_append_right _ (List.mem_append_left _ h)))))
theorem Q1_4i {w : Cond} (h : w ∈ Q1_4) : w ∈ lw_tbl := List.mem_append_right _ (List.mem_append_left _ (by rw [Qe1]; exact List.mem_append_right _ (List.mem_append_right _ (List.mem_append_right _ (List.mem_append_right _ (List.mem_append_left _ h))))))
theorem Q1_5i {w : Cond} (h : w ∈ Q1_5) : w ∈ lw_tbl := List.mem_append_right _ (List.mem_append_left _ (by rw [Qe1]; exact List.mem_append_right _ (List.mem_append_right _ (List.mem_append_right _ (List.mem_append_right _ (List.mem_append_right _ (List.mem_append_left _ h)))))))
theorem Q1_6i {w : Cond} (h : w ∈ Q1_6) : w ∈ lw_tbl := List.mem_append_right _ (List.mem_append_left _ (by rw [Qe1]; exact List.mem_append_right _ (List.mem_append_right _ (List.mem_append_right _ (List.mem_append_right _ (List.mem_append_right _ (List.mem_append_right _ (List.mem_append_left _ h))))))))
theorem Q1_7i {w : Cond} (h : w ∈ Q1_7) : w ∈ lw_tbl := List.mem_append_right _ (List.mem_append_left _ (by rw [Qe1]; exact List.mem_append_right _ (List.mem_append_right _ (List.mem_append_right _ (List.mem_append_right _ (List.mem_append_right _ (List.mem_append_right _ (List.mem_append_right _ (List.mem_append_left _ h)))))))))
theorem Q1_8i {w : Cond} (h : w ∈ Q1_8) : w ∈ lw_tbl := List.mem_append_right _ (List.mem_append_left _ (by rw [Qe1]; exact List.mem_append_right _ (List.mem_append_right _ (List.mem_append_right _ (List.mem_append_right _ (List.mem_append_right _ (List.mem_append_right _ (List.mem_append_right _ (List.mem_append_right _ (List.mem_append_left _ h))))))))))
theorem Q1_9i {w : Cond} (h : w ∈ Q1_9) : w ∈ lw_tbl := List.mem_append_right _ (List.mem_append_left _ (by rw [Qe1]; exact List.mem_append_right _ (List.mem_append_right _ (List.mem_append_right _ (List.mem_append_right _ (List.mem_append_right _ (List.mem_append_right _ (List.mem_append_right _ (List.mem_append_right _ (List.mem_append_right _ (List.mem_append_left _ h)))))))))))
theorem Q1_10i {w : Cond} (h : w ∈ Q1_10) : w ∈ lw_tbl := List.mem_append_right _ (List.mem_append_left _ (by rw [Qe1]; exact List.mem_append_right _ (List.mem_append_right _ (List.mem_append_right _ (List.mem_append_right _ (List.mem_append_right _ (List.mem_append_right _ (List.mem_append_right _ (List.mem_append_right _ (List.mem_append_right _ (List.mem_append_right _ (List.mem_append_left _ h))))))))))))
theorem Q1_11i {w : Cond} (h : w ∈ Q1_11) : w ∈ lw_tbl := List.mem_append_right _ (List.mem_append_left _ (by rw [Qe1]; exact List.mem_append_right _ (List.mem_append_right _ (List.mem_append_right _ (List.mem_append_right _ (List.mem_append_right _ (List.mem_append_right _ (List.mem_append_right _ (List.mem_append_right _ (List.mem_append_right _ (List.mem_append_right _ (List.mem_append_right _ (List.mem_append_left _ h)))))))))))))
theorem Q1_12i {w : Cond} (h : w ∈ Q1_12) : w ∈ lw_tbl := List.mem_append_right _ (List.mem_append_left _ (by rw [Qe1]; exact List.mem_append_right _ (List.mem_append_right _ (List.mem_append_right _ (List.mem_append_right _ (List.mem_append_right _ (List.mem_append_right _ (List.mem_append_right _ (List.mem_append_right _ (List.mem_append_right _ (List.mem_append_right _ (List.mem_append_right _ (List.mem_append_right _ (List.mem_append_left _ h))))))))))))))
theorem Q1_13i {w : Cond} (h : w ∈ Q1_13) : w ∈ lw_tbl := List.mem_append_right _ (List.mem_append_left _ (by rw [Qe1]; exact List.mem_append_right _ (List.mem_append_right _ (List.mem_append_right _ (List.mem_append_right _ (List.mem_append_right _ (List.mem_append_right _ (List.mem_append_right _ (List.mem_append_right _ (List.mem_append_right _ (List.mem_append_right _ (List.mem_append_right _ (List.mem_append_right _ (List.mem_append_right _ (List.mem_append_left _ h)))))))))))))))
theorem Q1_14i {w : Cond} (h : w ∈ Q1_14) : w ∈ lw_tbl := List.mem_append_right _ (List.mem_append_left _ (by rw [Qe1]; exact List.mem_append_right _ (List.mem_append_right _ (List.mem_append_right _ (List.mem_append_right _ (List.mem_append_right _ (List.mem_append_right _ (List.mem_append_right _ (List.mem_append_right _ (List.mem_append_right _ (List.mem_append_right _ (List.mem_append_right _ (List.mem_append_right _ (List.mem_append_right _ (List.mem_append_right _ (h))))))))))))))))
def Q2_0 : List Cond := [Cond.selects RX5 yX5_servers yX5_servers, Cond.code yX5_servers cX5_servers 1 (some .int), Cond.methodLink RL 147 yX5_agreement, Cond.instanceMethod yX5_agreement, Cond.selects RX5 yX5_agreement yX5_agreement, Cond.code yX5_agreement cX5_agreement 1 (some .int), Cond.methodLink RX5 141 yX5_select, Cond.privateMethod yX5_select, Cond.instanceMethod yX5_select, Cond.code yX5_select cX5_select 5 none, Cond.methodLink RX5 230 yX3_clear, Cond.instanceMethod yX3_clear, Cond.selects RX3 yX3_clear yX3_clear, Cond.code yX3_clear cX3_clear 1 none, Cond.methodLink RX5 206 yX5_serverOrNull, Cond.privateMethod yX5_serverOrNull]
def Q2_1 : List Cond := [Cond.instanceMethod yX5_serverOrNull, Cond.code yX5_serverOrNull cX5_serverOrNull 2 (some (.object "Clockhouse$Server")), Cond.methodLink RX5 103 yX5_roomOrNull, Cond.privateMethod yX5_roomOrNull, Cond.instanceMethod yX5_roomOrNull, Cond.code yX5_roomOrNull cX5_roomOrNull 2 (some (.object "Clockhouse$Server")), Cond.methodLink RX5 123 yX4_kept, Cond.instanceMethod yX4_kept, Cond.selects RX4 yX4_kept yX4_kept, Cond.code yX4_kept cX4_kept 1 (some .int), Cond.methodLink RX5 231 yX3_enter, Cond.instanceMethod yX3_enter, Cond.selects RX3 yX3_enter yX3_enter, Cond.code yX3_enter cX3_enter 5 none, Cond.methodLink RX3 44 yX4_bestOffset, Cond.instanceMethod yX4_bestOffset]
def Q2_2 : List Cond := [Cond.selects RX4 yX4_bestOffset yX4_bestOffset, Cond.code yX4_bestOffset cX4_bestOffset 1 (some .long), Cond.methodLink RX4 61 yX2_get, Cond.instanceMethod yX2_get, Cond.selects RX2 yX2_get yX2_get, Cond.code yX2_get cX2_get 2 (some .long), Cond.methodLink RX3 50 yX2_put, Cond.instanceMethod yX2_put, Cond.selects RX2 yX2_put yX2_put, Cond.code yX2_put cX2_put 4 none, Cond.methodLink RX3 54 yX4_distanceAt, Cond.instanceMethod yX4_distanceAt, Cond.selects RX4 yX4_distanceAt yX4_distanceAt, Cond.code yX4_distanceAt cX4_distanceAt 5 (some .long), Cond.constantLong RX4 69 (2), Cond.methodLink RX4 71 yX4_bestDelay]
def Q2_3 : List Cond := [Cond.instanceMethod yX4_bestDelay, Cond.selects RX4 yX4_bestDelay yX4_bestDelay, Cond.code yX4_bestDelay cX4_bestDelay 1 (some .long), Cond.methodLink RX4 75 yX4_offsetJitter, Cond.instanceMethod yX4_offsetJitter, Cond.selects RX4 yX4_offsetJitter yX4_offsetJitter, Cond.code yX4_offsetJitter cX4_offsetJitter 6 (some .long), Cond.methodLink RX4 65 Lib.MathLoose.abs_long.x, Cond.static Lib.MathLoose.abs_long.x, Cond.code Lib.MathLoose.abs_long.x Lib.MathLoose.abs_long.code 2 (some .long), Cond.constantLong RX4 78 (15), Cond.constantLong RX4 80 (1000000), Cond.methodLink RX4 82 yJ9_floorDiv_f86c9, Cond.methodLink RX3 58 yX4_offsetJitter, Cond.methodLink RX3 61 yX4_ownStratum, Cond.instanceMethod yX4_ownStratum]
def Q2_4 : List Cond := [Cond.selects RX4 yX4_ownStratum yX4_ownStratum, Cond.code yX4_ownStratum cX4_ownStratum 1 (some .int), Cond.methodLink RX5 235 yX3_intersect, Cond.instanceMethod yX3_intersect, Cond.selects RX3 yX3_intersect yX3_intersect, Cond.code yX3_intersect cX3_intersect 2 none, Cond.methodLink RX3 74 yX3_contains, Cond.static yX3_contains, Cond.code yX3_contains cX3_contains 2 (some .boolean), Cond.methodLink RX3 78 yX2_get, Cond.methodLink RX3 82 yX3_tryLowEnd, Cond.privateMethod yX3_tryLowEnd, Cond.instanceMethod yX3_tryLowEnd, Cond.code yX3_tryLowEnd cX3_tryLowEnd 5 none, Cond.methodLink RX3 89 yX3_intervalsWith, Cond.privateMethod yX3_intervalsWith]
def Q2_5 : List Cond := [Cond.instanceMethod yX3_intervalsWith, Cond.code yX3_intervalsWith cX3_intervalsWith 5 (some .int), Cond.methodLink RX3 93 Lib.MathLoose.abs_long.x, Cond.methodLink RX3 68 yJ6_bitCount_0f7a4, Cond.static yJ6_bitCount_0f7a4, Cond.code yJ6_bitCount_0f7a4 cJ6_bitCount_0f7a4 1 (some .int), Cond.constant RJ6 265 (1431655765), Cond.constant RJ6 266 (858993459), Cond.constant RJ6 267 (252645135), Cond.methodLink RX3 86 yX3_leastUpperEnd, Cond.privateMethod yX3_leastUpperEnd, Cond.instanceMethod yX3_leastUpperEnd, Cond.code yX3_leastUpperEnd cX3_leastUpperEnd 7 (some .long), Cond.methodLink RX5 238 yX3_cluster, Cond.instanceMethod yX3_cluster, Cond.selects RX3 yX3_cluster yX3_cluster]
def Q2_6 : List Cond := [Cond.code yX3_cluster cX3_cluster 3 none, Cond.methodLink RX3 98 yX3_widestSpread, Cond.privateMethod yX3_widestSpread, Cond.instanceMethod yX3_widestSpread, Cond.code yX3_widestSpread cX3_widestSpread 3 (some .int), Cond.methodLink RX3 101 yX3_spread, Cond.privateMethod yX3_spread, Cond.instanceMethod yX3_spread, Cond.code yX3_spread cX3_spread 6 (some .long), Cond.methodLink RX3 104 yX3_leastJitter, Cond.privateMethod yX3_leastJitter, Cond.instanceMethod yX3_leastJitter, Cond.code yX3_leastJitter cX3_leastJitter 5 (some .long), Cond.methodLink RX5 144 yX3_agreed, Cond.instanceMethod yX3_agreed, Cond.selects RX3 yX3_agreed yX3_agreed]
def Q2_7 : List Cond := [Cond.code yX3_agreed cX3_agreed 1 (some .int), Cond.methodLink RL 151 yX5_hasMajority, Cond.instanceMethod yX5_hasMajority, Cond.selects RX5 yX5_hasMajority yX5_hasMajority, Cond.code yX5_hasMajority cX5_hasMajority 1 (some .boolean), Cond.methodLink RX5 147 yX3_isMajority, Cond.instanceMethod yX3_isMajority, Cond.selects RX3 yX3_isMajority yX3_isMajority, Cond.code yX3_isMajority cX3_isMajority 1 (some .boolean), Cond.methodLink RX3 65 yX3_agreed, Cond.methodLink RL 156 yX5_agreeing, Cond.instanceMethod yX5_agreeing, Cond.selects RX5 yX5_agreeing yX5_agreeing, Cond.code yX5_agreeing cX5_agreeing 1 (some .int), Cond.methodLink RX5 151 yX3_agreeingBits, Cond.instanceMethod yX3_agreeingBits]
def Q2_8 : List Cond := [Cond.selects RX3 yX3_agreeingBits yX3_agreeingBits, Cond.code yX3_agreeingBits cX3_agreeingBits 1 (some .int), Cond.methodLink RL 167 yX5_survivors, Cond.instanceMethod yX5_survivors, Cond.selects RX5 yX5_survivors yX5_survivors, Cond.code yX5_survivors cX5_survivors 1 (some .int), Cond.methodLink RX5 163 yX3_survivorBits, Cond.instanceMethod yX3_survivorBits, Cond.selects RX3 yX3_survivorBits yX3_survivorBits, Cond.code yX3_survivorBits cX3_survivorBits 1 (some .int), Cond.methodLink RL 174 yX5_peer, Cond.instanceMethod yX5_peer, Cond.selects RX5 yX5_peer yX5_peer, Cond.code yX5_peer cX5_peer 1 (some .int), Cond.methodLink RX5 169 yX3_preferred, Cond.instanceMethod yX3_preferred]
def Q2_9 : List Cond := [Cond.selects RX3 yX3_preferred yX3_preferred, Cond.code yX3_preferred cX3_preferred 3 (some .int), Cond.methodLink RX3 119 yX3_isBetter, Cond.privateMethod yX3_isBetter, Cond.instanceMethod yX3_isBetter, Cond.code yX3_isBetter cX3_isBetter 3 (some .boolean), Cond.methodLink RL 181 yX5_stratum, Cond.instanceMethod yX5_stratum, Cond.selects RX5 yX5_stratum yX5_stratum, Cond.code yX5_stratum cX5_stratum 1 (some .int), Cond.methodLink RL 185 yX5_steps, Cond.instanceMethod yX5_steps, Cond.selects RX5 yX5_steps yX5_steps, Cond.code yX5_steps cX5_steps 1 (some .int), Cond.methodLink RL 189 yX5_synchronizations, Cond.instanceMethod yX5_synchronizations]
def Q2_10 : List Cond := [Cond.selects RX5 yX5_synchronizations yX5_synchronizations, Cond.code yX5_synchronizations cX5_synchronizations 1 (some .int), Cond.methodLink RL 76 yL_restart, Cond.static yL_restart, Cond.codeWith yL_restart cL_restart 3 (some .int) [(0, 5, 8, 13)], Cond.classLink RL 13 "java/lang/IllegalArgumentException", Cond.methodLink RL 7 yX5_restart, Cond.instanceMethod yX5_restart, Cond.selects RX5 yX5_restart yX5_restart, Cond.code yX5_restart cX5_restart 2 none, Cond.constant RX5 41 (-1000000000), Cond.constant RX5 42 (1000000000), Cond.methodLink RX5 43 yX5_isWithin, Cond.static yX5_isWithin, Cond.code yX5_isWithin cX5_isWithin 3 (some .boolean), Cond.classLink RX5 47 "java/lang/IllegalArgumentException"]
def Q2_11 : List Cond := [Cond.instantiable "java/lang/IllegalArgumentException" 6, Cond.castable "java/lang/IllegalArgumentException" "java/lang/IllegalArgumentException", Cond.declares ⟨"java/lang/RuntimeException", "<init>", "()V"⟩, Cond.declares ⟨"java/lang/RuntimeException", "<init>", "(Ljava/lang/String;)V"⟩, Cond.declares ⟨"java/lang/Exception", "<init>", "()V"⟩, Cond.declares ⟨"java/lang/Exception", "<init>", "(Ljava/lang/String;)V"⟩, Cond.declares ⟨"java/lang/Throwable", "<init>", "()V"⟩, Cond.declares ⟨"java/lang/Throwable", "<init>", "(Ljava/lang/String;)V"⟩, Cond.selects "java/lang/IllegalArgumentException" ⟨"java/lang/Throwable", "fillInStackTrace", "(I)Ljava/lang/Throwable;"⟩ ⟨"java/lang/Throwable", "fillInStackTrace", "(I)Ljava/lang/Throwable;"⟩, Cond.selects "java/lang/IllegalArgumentException" ⟨"java/lang/Throwable", "fillInStackTrace", "()Ljava/lang/Throwable;"⟩ ⟨"java/lang/Throwable", "fillInStackTrace", "()Ljava/lang/Throwable;"⟩, Cond.lays "java/lang/IllegalArgumentException" "java/lang/Throwable" "cause" "Ljava/lang/Throwable;", Cond.lays "java/lang/Throwable" "java/lang/Throwable" "cause" "Ljava/lang/Throwable;", Cond.lays "java/lang/IllegalArgumentException" "java/lang/Throwable" "stackTrace" "[Ljava/lang/StackTraceElement;", Cond.lays "java/lang/Throwable" "java/lang/Throwable" "stackTrace" "[Ljava/lang/StackTraceElement;", Cond.lays "java/lang/IllegalArgumentException" "java/lang/Throwable" "suppressedExceptions" "Ljava/util/List;", Cond.lays "java/lang/Throwable" "java/lang/Throwable" "suppressedExceptions" "Ljava/util/List;"]
def Q2_12 : List Cond := [Cond.lays "java/lang/IllegalArgumentException" "java/lang/Throwable" "detailMessage" "Ljava/lang/String;", Cond.lays "java/lang/Throwable" "java/lang/Throwable" "detailMessage" "Ljava/lang/String;", Cond.lays "java/lang/IllegalArgumentException" "java/lang/Throwable" "backtrace" "Ljava/lang/Object;", Cond.lays "java/lang/Throwable" "java/lang/Throwable" "backtrace" "Ljava/lang/Object;", Cond.fieldLink "java/lang/Throwable" 198 "java/lang/Throwable" "backtrace" "Ljava/lang/Object;", Cond.superclass "java/lang/Throwable" "java/lang/Object", Cond.instanceMethod ⟨"java/lang/Throwable", "<init>", "()V"⟩, Cond.code ⟨"java/lang/Throwable", "<init>", "()V"⟩ prog_16_method_1_code 1 none, Cond.methodLink "java/lang/Throwable" 1 objectInit, Cond.fieldLink "java/lang/Throwable" 13 "java/lang/Throwable" "UNASSIGNED_STACK" "[Ljava/lang/StackTraceElement;", Cond.laysStatic "java/lang/Throwable" "UNASSIGNED_STACK" "[Ljava/lang/StackTraceElement;", Cond.fieldLink "java/lang/Throwable" 20 "java/lang/Throwable" "SUPPRESSED_SENTINEL" "Ljava/util/List;", Cond.laysStatic "java/lang/Throwable" "SUPPRESSED_SENTINEL" "Ljava/util/List;", Cond.methodLink "java/lang/Throwable" 27 ⟨"java/lang/Throwable", "fillInStackTrace", "()Ljava/lang/Throwable;"⟩, Cond.instanceMethod ⟨"java/lang/Throwable", "fillInStackTrace", "()Ljava/lang/Throwable;"⟩, Cond.sameMethod "java/lang/Throwable" "java/lang/Throwable" "fillInStackTrace" "()Ljava/lang/Throwable;"]
def Q2_13 : List Cond := [Cond.selects "java/lang/IllegalStateException" ⟨"java/lang/Throwable", "fillInStackTrace", "()Ljava/lang/Throwable;"⟩ ⟨"java/lang/Throwable", "fillInStackTrace", "()Ljava/lang/Throwable;"⟩, Cond.selects "java/lang/IndexOutOfBoundsException" ⟨"java/lang/Throwable", "fillInStackTrace", "()Ljava/lang/Throwable;"⟩ ⟨"java/lang/Throwable", "fillInStackTrace", "()Ljava/lang/Throwable;"⟩, Cond.codeSync ⟨"java/lang/Throwable", "fillInStackTrace", "()Ljava/lang/Throwable;"⟩ prog_16_method_18_code 1 (some (.object "java/lang/Throwable")), Cond.methodLink "java/lang/Throwable" 202 ⟨"java/lang/Throwable", "fillInStackTrace", "(I)Ljava/lang/Throwable;"⟩, Cond.privateMethod ⟨"java/lang/Throwable", "fillInStackTrace", "(I)Ljava/lang/Throwable;"⟩, Cond.instanceMethod ⟨"java/lang/Throwable", "fillInStackTrace", "(I)Ljava/lang/Throwable;"⟩, Cond.instantiable "java/lang/Throwable" 6, Cond.native ⟨"java/lang/Throwable", "fillInStackTrace", "(I)Ljava/lang/Throwable;"⟩, Cond.methodLink RX5 49 ⟨"java/lang/IllegalArgumentException", "<init>", "()V"⟩, Cond.instanceMethod ⟨"java/lang/IllegalArgumentException", "<init>", "()V"⟩, Cond.code ⟨"java/lang/IllegalArgumentException", "<init>", "()V"⟩ prog_10_method_1_code 1 none, Cond.methodLink "java/lang/IllegalArgumentException" 1 ⟨"java/lang/RuntimeException", "<init>", "()V"⟩, Cond.instanceMethod ⟨"java/lang/RuntimeException", "<init>", "()V"⟩, Cond.code ⟨"java/lang/RuntimeException", "<init>", "()V"⟩ prog_15_method_1_code 1 none, Cond.methodLink "java/lang/RuntimeException" 1 ⟨"java/lang/Exception", "<init>", "()V"⟩, Cond.instanceMethod ⟨"java/lang/Exception", "<init>", "()V"⟩]
def Q2_14 : List Cond := [Cond.code ⟨"java/lang/Exception", "<init>", "()V"⟩ prog_9_method_1_code 1 none, Cond.methodLink "java/lang/Exception" 1 ⟨"java/lang/Throwable", "<init>", "()V"⟩, Cond.fieldLink "java/lang/Throwable" 198 "java/lang/Throwable" "backtrace" "Ljava/lang/Object;", Cond.fieldLink "java/lang/Throwable" 7 "java/lang/Throwable" "cause" "Ljava/lang/Throwable;", Cond.fieldLink "java/lang/Throwable" 17 "java/lang/Throwable" "stackTrace" "[Ljava/lang/StackTraceElement;", Cond.fieldLink "java/lang/Throwable" 24 "java/lang/Throwable" "suppressedExceptions" "Ljava/util/List;", Cond.soleField "java/lang/Throwable" "backtrace", Cond.soleField "java/lang/Throwable" "detailMessage", Cond.soleField "java/lang/Throwable" "cause", Cond.soleField "java/lang/Throwable" "stackTrace", Cond.lays "java/lang/IllegalArgumentException" "java/lang/Throwable" "depth" "I", Cond.soleField "java/lang/Throwable" "depth", Cond.soleField "java/lang/Throwable" "suppressedExceptions", Cond.superclass "java/lang/IllegalArgumentException" "java/lang/RuntimeException", Cond.methodLink RL 82 yL_pass, Cond.static yL_pass]
set_option maxRecDepth 100000 in
theorem Qe2 : tables_1_2 = Q2_0 ++ (Q2_1 ++ (Q2_2 ++ (Q2_3 ++ (Q2_4 ++ (Q2_5 ++ (Q2_6 ++ (Q2_7 ++ (Q2_8 ++ (Q2_9 ++ (Q2_10 ++ (Q2_11 ++ (Q2_12 ++ (Q2_13 ++ (Q2_14)))))))))))))) := rfl
theorem Q2_0i {w : Cond} (h : w ∈ Q2_0) : w ∈ lw_tbl := List.mem_append_right _ (List.mem_append_right _ (List.mem_append_left _ (by rw [Qe2]; exact List.mem_append_left _ h)))
theorem Q2_1i {w : Cond} (h : w ∈ Q2_1) : w ∈ lw_tbl := List.mem_append_right _ (List.mem_append_right _ (List.mem_append_left _ (by rw [Qe2]; exact List.mem_append_right _ (List.mem_append_left _ h))))
theorem Q2_2i {w : Cond} (h : w ∈ Q2_2) : w ∈ lw_tbl := List.mem_append_right _ (List.mem_append_right _ (List.mem_append_left _ (by rw [Qe2]; exact List.mem_append_right _ (List.mem_append_right _ (List.mem_append_left _ h)))))
theorem Q2_3i {w : Cond} (h : w ∈ Q2_3) : w ∈ lw_tbl := List.mem_append_right _ (List.mem_append_right _ (List.mem_append_left _ (by rw [Qe2]; exact List.mem_append_right _ (List.mem_append_right _ (List.mem_append_right _ (List.mem_append_left _ h))))))
theorem Q2_4i {w : Cond} (h : w ∈ Q2_4) : w ∈ lw_tbl := List.mem_append_right _ (List.mem_append_right _ (List.mem_append_left _ (by rw [Qe2]; exact List.mem_append_right _ (List.mem_append_right _ (List.mem_append_right _ (List.mem_append_right _ (List.mem_append_left _ h)))))))
theorem Q2_5i {w : Cond} (h : w ∈ Q2_5) : w ∈ lw_tbl := List.mem_append_right _ (List.mem_append_right _ (List.mem_append_left _ (by rw [Qe2]; exact List.mem_append_right _ (List.mem_append_right _ (List.mem_append_right _ (List.mem_append_right _ (List.mem_append_right _ (List.mem_append_left _ h))))))))
theorem Q2_6i {w : Cond} (h : w ∈ Q2_6) : w ∈ lw_tbl := List.mem_append_right _ (List.mem_append_right _ (List.mem_append_left _ (by rw [Qe2]; exact List.mem_append_right _ (List.mem_append_right _ (List.mem_append_right _ (List.mem_append_right _ (List.mem_append_right _ (List.mem_append_right _ (List.mem_append_left _ h)))))))))
theorem Q2_7i {w : Cond} (h : w ∈ Q2_7) : w ∈ lw_tbl := List.mem_append_right _ (List.mem_append_right _ (List.mem_append_left _ (by rw [Qe2]; exact List.mem_append_right _ (List.mem_append_right _ (List.mem_append_right _ (List.mem_append_right _ (List.mem_append_right _ (List.mem_append_right _ (List.mem_append_right _ (List.mem_append_left _ h))))))))))
theorem Q2_8i {w : Cond} (h : w ∈ Q2_8) : w ∈ lw_tbl := List.mem_append_right _ (List.mem_append_right _ (List.mem_append_left _ (by rw [Qe2]; exact List.mem_append_right _ (List.mem_append_right _ (List.mem_append_right _ (List.mem_append_right _ (List.mem_append_right _ (List.mem_append_right _ (List.mem_append_right _ (List.mem_append_right _ (List.mem_append_left _ h)))))))))))
theorem Q2_9i {w : Cond} (h : w ∈ Q2_9) : w ∈ lw_tbl := List.mem_append_right _ (List.mem_append_right _ (List.mem_append_left _ (by rw [Qe2]; exact List.mem_append_right _ (List.mem_append_right _ (List.mem_append_right _ (List.mem_append_right _ (List.mem_append_right _ (List.mem_append_right _ (List.mem_append_right _ (List.mem_append_right _ (List.mem_append_right _ (List.mem_append_left _ h))))))))))))
theorem Q2_10i {w : Cond} (h : w ∈ Q2_10) : w ∈ lw_tbl := List.mem_append_right _ (List.mem_append_right _ (List.mem_append_left _ (by rw [Qe2]; exact List.mem_append_right _ (List.mem_append_right _ (List.mem_append_right _ (List.mem_append_right _ (List.mem_append_right _ (List.mem_append_right _ (List.mem_append_right _ (List.mem_append_right _ (List.mem_append_right _ (List.mem_append_right _ (List.mem_append_left _ h)))))))))))))
theorem Q2_11i {w : Cond} (h : w ∈ Q2_11) : w ∈ lw_tbl := List.mem_append_right _ (List.mem_append_right _ (List.mem_append_left _ (by rw [Qe2]; exact List.mem_append_right _ (List.mem_append_right _ (List.mem_append_right _ (List.mem_append_right _ (List.mem_append_right _ (List.mem_append_right _ (List.mem_append_right _ (List.mem_append_right _ (List.mem_append_right _ (List.mem_append_right _ (List.mem_append_right _ (List.mem_append_left _ h))))))))))))))
theorem Q2_12i {w : Cond} (h : w ∈ Q2_12) : w ∈ lw_tbl := List.mem_append_right _ (List.mem_append_right _ (List.mem_append_left _ (by rw [Qe2]; exact List.mem_append_right _ (List.mem_append_right _ (List.mem_append_right _ (List.mem_append_right _ (List.mem_append_right _ (List.mem_append_right _ (List.mem_append_right _ (List.mem_append_right _ (List.mem_append_right _ (List.mem_append_right _ (List.mem_append_right _ (List.mem_append_right _ (List.mem_append_left _ h)))))))))))))))
theorem Q2_13i {w : Cond} (h : w ∈ Q2_13) : w ∈ lw_tbl := List.mem_append_right _ (List.mem_append_right _ (List.mem_append_left _ (by rw [Qe2]; exact List.mem_append_right _ (List.mem_append_right _ (List.mem_append_right _ (List.mem_append_right _ (List.mem_append_right _ (List.mem_append_right _ (List.mem_append_right _ (List.mem_append_right _ (List.mem_append_right _ (List.mem_append_right _ (List.mem_append_right _ (List.mem_append_right _ (List.mem_append_right _ (List.mem_append_left _ h))))))))))))))))
theorem Q2_14i {w : Cond} (h : w ∈ Q2_14) : w ∈ lw_tbl := List.mem_append_right _ (List.mem_append_right _ (List.mem_append_left _ (by rw [Qe2]; exact List.mem_append_right _ (List.mem_append_right _ (List.mem_append_right _ (List.mem_append_right _ (List.mem_append_right _ (List.mem_append_right _ (List.mem_append_right _ (List.mem_append_right _ (List.mem_append_right _ (List.mem_append_right _ (List.mem_append_right _ (List.mem_append_right _ (List.mem_append_right _ (List.mem_append_right _ (h)))))))))))))))))
def Q3_0 : List Cond := [Cond.codeWith yL_pass cL_pass 4 (some .int) [(0, 8, 11, 13), (0, 8, 14, 19)], Cond.classLink RL 19 "java/lang/IllegalStateException", Cond.methodLink RL 15 yX5_pass, Cond.instanceMethod yX5_pass, Cond.selects RX5 yX5_pass yX5_pass, Cond.code yX5_pass cX5_pass 2 (some .long), Cond.methodLink RX5 50 yX5_isBeyondLastTrueTime, Cond.privateMethod yX5_isBeyondLastTrueTime, Cond.instanceMethod yX5_isBeyondLastTrueTime, Cond.code yX5_isBeyondLastTrueTime cX5_isBeyondLastTrueTime 3 (some .boolean), Cond.constantLong RX5 203 (1000000000000), Cond.classLink RX5 54 "java/lang/IllegalStateException", Cond.instantiable "java/lang/IllegalStateException" 6, Cond.castable "java/lang/IllegalStateException" "java/lang/IllegalStateException", Cond.selects "java/lang/IllegalStateException" ⟨"java/lang/Throwable", "fillInStackTrace", "(I)Ljava/lang/Throwable;"⟩ ⟨"java/lang/Throwable", "fillInStackTrace", "(I)Ljava/lang/Throwable;"⟩, Cond.lays "java/lang/IllegalStateException" "java/lang/Throwable" "cause" "Ljava/lang/Throwable;"]
def Q3_1 : List Cond := [Cond.lays "java/lang/IllegalStateException" "java/lang/Throwable" "stackTrace" "[Ljava/lang/StackTraceElement;", Cond.lays "java/lang/IllegalStateException" "java/lang/Throwable" "suppressedExceptions" "Ljava/util/List;", Cond.lays "java/lang/IllegalStateException" "java/lang/Throwable" "detailMessage" "Ljava/lang/String;", Cond.lays "java/lang/IllegalStateException" "java/lang/Throwable" "backtrace" "Ljava/lang/Object;", Cond.methodLink RX5 56 ⟨"java/lang/IllegalStateException", "<init>", "()V"⟩, Cond.instanceMethod ⟨"java/lang/IllegalStateException", "<init>", "()V"⟩, Cond.code ⟨"java/lang/IllegalStateException", "<init>", "()V"⟩ prog_11_method_1_code 1 none, Cond.methodLink "java/lang/IllegalStateException" 1 ⟨"java/lang/RuntimeException", "<init>", "()V"⟩, Cond.lays "java/lang/IllegalStateException" "java/lang/Throwable" "depth" "I", Cond.superclass "java/lang/IllegalStateException" "java/lang/RuntimeException", Cond.methodLink RX5 57 yX5_elapse, Cond.privateMethod yX5_elapse, Cond.instanceMethod yX5_elapse, Cond.code yX5_elapse cX5_elapse 2 none, Cond.methodLink RX5 205 yX1_elapse, Cond.instanceMethod yX1_elapse]
def Q3_2 : List Cond := [Cond.selects RX1 yX1_elapse yX1_elapse, Cond.code yX1_elapse cX1_elapse 6 none, Cond.constantLong RX1 33 (500), Cond.methodLink RX1 35 Lib.MathLoose.min_long.x, Cond.static Lib.MathLoose.min_long.x, Cond.code Lib.MathLoose.min_long.x Lib.MathLoose.min_long.code 4 (some .long), Cond.methodLink RX1 38 Lib.MathLoose.max_long.x, Cond.static Lib.MathLoose.max_long.x, Cond.code Lib.MathLoose.max_long.x Lib.MathLoose.max_long.code 4 (some .long), Cond.methodLink RL 86 yL_setDrift, Cond.static yL_setDrift, Cond.codeWith yL_setDrift cL_setDrift 4 (some .int) [(0, 9, 12, 13)], Cond.methodLink RL 21 yX5_setDrift, Cond.instanceMethod yX5_setDrift, Cond.selects RX5 yX5_setDrift yX5_setDrift, Cond.code yX5_setDrift cX5_setDrift 2 (some .int)]
def Q3_3 : List Cond := [Cond.methodLink RX5 64 yX1_changeDrift, Cond.instanceMethod yX1_changeDrift, Cond.selects RX1 yX1_changeDrift yX1_changeDrift, Cond.code yX1_changeDrift cX1_changeDrift 3 (some .int), Cond.methodLink RL 109 yL_announceLeap, Cond.static yL_announceLeap, Cond.codeWith yL_announceLeap cL_announceLeap 5 (some .int) [(0, 9, 12, 13), (0, 9, 16, 19)], Cond.methodLink RL 25 yX5_announceLeap, Cond.instanceMethod yX5_announceLeap, Cond.selects RX5 yX5_announceLeap yX5_announceLeap, Cond.code yX5_announceLeap cX5_announceLeap 5 (some .long), Cond.methodLink RX5 79 yX0_smearBeginning, Cond.methodLink RX5 83 yX0_isAnnounced, Cond.instanceMethod yX0_isAnnounced, Cond.selects RX0 yX0_isAnnounced yX0_isAnnounced, Cond.code yX0_isAnnounced cX0_isAnnounced 2 (some .boolean)]
def Q3_4 : List Cond := [Cond.methodLink RX5 87 yX0_announce, Cond.instanceMethod yX0_announce, Cond.selects RX0 yX0_announce yX0_announce, Cond.code yX0_announce cX0_announce 3 none, Cond.methodLink RL 117 yL_addServer, Cond.static yL_addServer, Cond.codeWith yL_addServer cL_addServer 7 (some .int) [(0, 14, 17, 13), (0, 14, 21, 19)], Cond.methodLink RL 29 yX5_addServer, Cond.instanceMethod yX5_addServer, Cond.selects RX5 yX5_addServer yX5_addServer, Cond.code yX5_addServer cX5_addServer 6 (some .int), Cond.methodLink RX5 95 yX5_isServerError, Cond.static yX5_isServerError, Cond.code yX5_isServerError cX5_isServerError 1 (some .boolean), Cond.constant RX5 198 (-1000000), Cond.constant RX5 98 (1000000)]
def Q3_5 : List Cond := [Cond.methodLink RX5 107 yX4_settle, Cond.instanceMethod yX4_settle, Cond.selects RX4 yX4_settle yX4_settle, Cond.code yX4_settle cX4_settle 5 none, Cond.methodLink RX4 38 yX4_forget, Cond.instanceMethod yX4_forget, Cond.selects RX4 yX4_forget yX4_forget, Cond.code yX4_forget cX4_forget 1 none, Cond.methodLink RL 121 yL_setError, Cond.static yL_setError, Cond.codeWith yL_setError cL_setError 5 (some .int) [(0, 10, 13, 37), (0, 10, 17, 13)], Cond.classLink RL 37 "java/lang/IndexOutOfBoundsException", Cond.methodLink RL 33 yX5_setError, Cond.instanceMethod yX5_setError, Cond.selects RX5 yX5_setError yX5_setError, Cond.code yX5_setError cX5_setError 4 (some .int)]
def Q3_6 : List Cond := [Cond.methodLink RX5 111 yX5_knownServer, Cond.privateMethod yX5_knownServer, Cond.instanceMethod yX5_knownServer, Cond.code yX5_knownServer cX5_knownServer 3 (some (.object "Clockhouse$Server")), Cond.classLink RX5 209 "java/lang/IndexOutOfBoundsException", Cond.instantiable "java/lang/IndexOutOfBoundsException" 6, Cond.castable "java/lang/IndexOutOfBoundsException" "java/lang/IndexOutOfBoundsException", Cond.selects "java/lang/IndexOutOfBoundsException" ⟨"java/lang/Throwable", "fillInStackTrace", "(I)Ljava/lang/Throwable;"⟩ ⟨"java/lang/Throwable", "fillInStackTrace", "(I)Ljava/lang/Throwable;"⟩, Cond.lays "java/lang/IndexOutOfBoundsException" "java/lang/Throwable" "cause" "Ljava/lang/Throwable;", Cond.lays "java/lang/IndexOutOfBoundsException" "java/lang/Throwable" "stackTrace" "[Ljava/lang/StackTraceElement;", Cond.lays "java/lang/IndexOutOfBoundsException" "java/lang/Throwable" "suppressedExceptions" "Ljava/util/List;", Cond.lays "java/lang/IndexOutOfBoundsException" "java/lang/Throwable" "detailMessage" "Ljava/lang/String;", Cond.lays "java/lang/IndexOutOfBoundsException" "java/lang/Throwable" "backtrace" "Ljava/lang/Object;", Cond.methodLink RX5 211 ⟨"java/lang/IndexOutOfBoundsException", "<init>", "()V"⟩, Cond.instanceMethod ⟨"java/lang/IndexOutOfBoundsException", "<init>", "()V"⟩, Cond.code ⟨"java/lang/IndexOutOfBoundsException", "<init>", "()V"⟩ prog_12_method_1_code 1 none]
def Q3_7 : List Cond := [Cond.methodLink "java/lang/IndexOutOfBoundsException" 1 ⟨"java/lang/RuntimeException", "<init>", "()V"⟩, Cond.lays "java/lang/IndexOutOfBoundsException" "java/lang/Throwable" "depth" "I", Cond.superclass "java/lang/IndexOutOfBoundsException" "java/lang/RuntimeException", Cond.methodLink RX5 114 yX4_changeError, Cond.instanceMethod yX4_changeError, Cond.selects RX4 yX4_changeError yX4_changeError, Cond.code yX4_changeError cX4_changeError 3 (some .int), Cond.methodLink RL 125 yL_exchange, Cond.static yL_exchange, Cond.codeWith yL_exchange cL_exchange 7 (some .int) [(0, 13, 16, 37), (0, 13, 20, 13), (0, 13, 24, 19)], Cond.methodLink RL 39 yX5_exchange, Cond.instanceMethod yX5_exchange, Cond.selects RX5 yX5_exchange yX5_exchange, Cond.code yX5_exchange cX5_exchange 6 (some .long), Cond.constant RX5 117 (500000), Cond.constant RX5 118 (100000)]
def Q3_8 : List Cond := [Cond.methodLink RX5 119 yX5_takeSample, Cond.privateMethod yX5_takeSample, Cond.instanceMethod yX5_takeSample, Cond.code yX5_takeSample cX5_takeSample 17 (some .long), Cond.methodLink RX5 212 yX4_readingAt, Cond.instanceMethod yX4_readingAt, Cond.selects RX4 yX4_readingAt yX4_readingAt, Cond.code yX4_readingAt cX4_readingAt 3 (some .long), Cond.constantLong RX5 215 (2), Cond.methodLink RX5 217 yJ9_floorDiv_f86c9, Cond.methodLink RX5 223 Lib.MathLoose.max_long.x, Cond.methodLink RX5 226 yX4_keep, Cond.instanceMethod yX4_keep, Cond.selects RX4 yX4_keep yX4_keep, Cond.code yX4_keep cX4_keep 7 none, Cond.methodLink RX4 47 yX2_push]
def Q3_9 : List Cond := [Cond.instanceMethod yX2_push, Cond.selects RX2 yX2_push yX2_push, Cond.code yX2_push cX2_push 4 none, Cond.methodLink RX2 13 yX2_get, Cond.methodLink RX2 17 yX2_put, Cond.methodLink RX4 51 Lib.Math.min.name, Cond.static Lib.Math.min.name, Cond.code Lib.Math.min.name Lib.Math.min.code 2 (some .int), Cond.methodLink RX4 57 yX4_leastDelay, Cond.privateMethod yX4_leastDelay, Cond.instanceMethod yX4_leastDelay, Cond.code yX4_leastDelay cX4_leastDelay 3 (some .int), Cond.methodLink RL 132 yL_samples, Cond.static yL_samples, Cond.codeWith yL_samples cL_samples 4 (some .int) [(0, 9, 12, 37)], Cond.methodLink RL 43 yX5_samples]
def Q3_10 : List Cond := [Cond.instanceMethod yX5_samples, Cond.selects RX5 yX5_samples yX5_samples, Cond.code yX5_samples cX5_samples 2 (some .int), Cond.methodLink RL 135 yL_offset, Cond.static yL_offset, Cond.codeWith yL_offset cL_offset 4 (some .int) [(0, 8, 11, 37), (0, 8, 14, 19)], Cond.methodLink RL 46 yX5_offset, Cond.instanceMethod yX5_offset, Cond.selects RX5 yX5_offset yX5_offset, Cond.code yX5_offset cX5_offset 2 (some .long), Cond.methodLink RX5 126 yX5_heardServer, Cond.privateMethod yX5_heardServer, Cond.instanceMethod yX5_heardServer, Cond.code yX5_heardServer cX5_heardServer 3 (some (.object "Clockhouse$Server")), Cond.methodLink RX5 129 yX4_bestOffset, Cond.methodLink RL 138 yL_delay]
def Q3_11 : List Cond := [Cond.static yL_delay, Cond.codeWith yL_delay cL_delay 4 (some .int) [(0, 8, 11, 37), (0, 8, 14, 19)], Cond.methodLink RL 49 yX5_delay, Cond.instanceMethod yX5_delay, Cond.selects RX5 yX5_delay yX5_delay, Cond.code yX5_delay cX5_delay 2 (some .long), Cond.methodLink RX5 132 yX4_bestDelay, Cond.methodLink RL 141 yL_jitter, Cond.static yL_jitter, Cond.codeWith yL_jitter cL_jitter 4 (some .int) [(0, 8, 11, 37), (0, 8, 14, 19)], Cond.methodLink RL 52 yX5_jitter, Cond.instanceMethod yX5_jitter, Cond.selects RX5 yX5_jitter yX5_jitter, Cond.code yX5_jitter cX5_jitter 2 (some .long), Cond.methodLink RX5 135 yX4_offsetJitter, Cond.methodLink RL 144 yL_distance]
def Q3_12 : List Cond := [Cond.static yL_distance, Cond.codeWith yL_distance cL_distance 4 (some .int) [(0, 8, 11, 37), (0, 8, 14, 19)], Cond.methodLink RL 55 yX5_distance, Cond.instanceMethod yX5_distance, Cond.selects RX5 yX5_distance yX5_distance, Cond.code yX5_distance cX5_distance 2 (some .long), Cond.methodLink RX5 138 yX4_distanceAt, Cond.methodLink RL 160 yL_low, Cond.static yL_low, Cond.codeWith yL_low cL_low 3 (some .int) [(0, 7, 10, 19)], Cond.methodLink RL 58 yX5_low, Cond.instanceMethod yX5_low, Cond.selects RX5 yX5_low yX5_low, Cond.code yX5_low cX5_low 1 (some .long), Cond.methodLink RX5 154 yX5_selectFromSome, Cond.privateMethod yX5_selectFromSome]
def Q3_13 : List Cond := [Cond.instanceMethod yX5_selectFromSome, Cond.code yX5_selectFromSome cX5_selectFromSome 1 none, Cond.methodLink RX5 241 yX3_isEmpty, Cond.instanceMethod yX3_isEmpty, Cond.selects RX3 yX3_isEmpty yX3_isEmpty, Cond.code yX3_isEmpty cX3_isEmpty 1 (some .boolean), Cond.methodLink RX5 157 yX3_lowEnd, Cond.instanceMethod yX3_lowEnd, Cond.selects RX3 yX3_lowEnd yX3_lowEnd, Cond.code yX3_lowEnd cX3_lowEnd 1 (some .long), Cond.methodLink RL 164 yL_high, Cond.static yL_high, Cond.codeWith yL_high cL_high 3 (some .int) [(0, 7, 10, 19)], Cond.methodLink RL 62 yX5_high, Cond.instanceMethod yX5_high, Cond.selects RX5 yX5_high yX5_high]
def Q3_14 : List Cond := [Cond.code yX5_high cX5_high 1 (some .long), Cond.methodLink RX5 160 yX3_highEnd, Cond.instanceMethod yX3_highEnd, Cond.selects RX3 yX3_highEnd yX3_highEnd, Cond.code yX3_highEnd cX3_highEnd 1 (some .long), Cond.methodLink RL 171 yL_combinedOffset, Cond.static yL_combinedOffset, Cond.codeWith yL_combinedOffset cL_combinedOffset 3 (some .int) [(0, 7, 10, 19)], Cond.methodLink RL 65 yX5_combinedOffset, Cond.instanceMethod yX5_combinedOffset, Cond.selects RX5 yX5_combinedOffset yX5_combinedOffset, Cond.code yX5_combinedOffset cX5_combinedOffset 1 (some .long), Cond.methodLink RX5 166 yX3_weightedOffset, Cond.instanceMethod yX3_weightedOffset, Cond.selects RX3 yX3_weightedOffset yX3_weightedOffset, Cond.code yX3_weightedOffset cX3_weightedOffset 6 (some .long)]
set_option maxRecDepth 100000 in
theorem Qe3 : tables_1_3 = Q3_0 ++ (Q3_1 ++ (Q3_2 ++ (Q3_3 ++ (Q3_4 ++ (Q3_5 ++ (Q3_6 ++ (Q3_7 ++ (Q3_8 ++ (Q3_9 ++ (Q3_10 ++ (Q3_11 ++ (Q3_12 ++ (Q3_13 ++ (Q3_14)))))))))))))) := rfl
theorem Q3_0i {w : Cond} (h : w ∈ Q3_0) : w ∈ lw_tbl := List.mem_append_right _ (List.mem_append_right _ (List.mem_append_right _ (List.mem_append_left _ (by rw [Qe3]; exact List.mem_append_left _ h))))
theorem Q3_1i {w : Cond} (h : w ∈ Q3_1) : w ∈ lw_tbl := List.mem_append_right _ (List.mem_append_right _ (List.mem_append_right _ (List.mem_append_left _ (by rw [Qe3]; exact List.mem_append_right _ (List.mem_append_left _ h)))))
theorem Q3_2i {w : Cond} (h : w ∈ Q3_2) : w ∈ lw_tbl := List.mem_append_right _ (List.mem_append_right _ (List.mem_append_right _ (List.mem_append_left _ (by rw [Qe3]; exact List.mem_append_right _ (List.mem_append_right _ (List.mem_append_left _ h))))))
theorem Q3_3i {w : Cond} (h : w ∈ Q3_3) : w ∈ lw_tbl := List.mem_append_right _ (List.mem_append_right _ (List.mem_append_right _ (List.mem_append_left _ (by rw [Qe3]; exact List.mem_append_right _ (List.mem_append_right _ (List.mem_append_right _ (List.mem_append_left _ h)))))))
theorem Q3_4i {w : Cond} (h : w ∈ Q3_4) : w ∈ lw_tbl := List.mem_append_right _ (List.mem_append_right _ (List.mem_append_right _ (List.mem_append_left _ (by rw [Qe3]; exact List.mem_append_right _ (List.mem_append_right _ (List.mem_append_right _ (List.mem_append_right _ (List.mem_append_left _ h))))))))
theorem Q3_5i {w : Cond} (h : w ∈ Q3_5) : w ∈ lw_tbl := List.mem_append_right _ (List.mem_append_right _ (List.mem_append_right _ (List.mem_append_left _ (by rw [Qe3]; exact List.mem_append_right _ (List.mem_append_right _ (List.mem_append_right _ (List.mem_append_right _ (List.mem_append_right _ (List.mem_append_left _ h)))))))))
theorem Q3_6i {w : Cond} (h : w ∈ Q3_6) : w ∈ lw_tbl := List.mem_append_right _ (List.mem_append_right _ (List.mem_append_right _ (List.mem_append_left _ (by rw [Qe3]; exact List.mem_append_right _ (List.mem_append_right _ (List.mem_append_right _ (List.mem_append_right _ (List.mem_append_right _ (List.mem_append_right _ (List.mem_append_left _ h))))))))))
theorem Q3_7i {w : Cond} (h : w ∈ Q3_7) : w ∈ lw_tbl := List.mem_append_right _ (List.mem_append_right _ (List.mem_append_right _ (List.mem_append_left _ (by rw [Qe3]; exact List.mem_append_right _ (List.mem_append_right _ (List.mem_append_right _ (List.mem_append_right _ (List.mem_append_right _ (List.mem_append_right _ (List.mem_append_right _ (List.mem_append_left _ h)))))))))))
theorem Q3_8i {w : Cond} (h : w ∈ Q3_8) : w ∈ lw_tbl := List.mem_append_right _ (List.mem_append_right _ (List.mem_append_right _ (List.mem_append_left _ (by rw [Qe3]; exact List.mem_append_right _ (List.mem_append_right _ (List.mem_append_right _ (List.mem_append_right _ (List.mem_append_right _ (List.mem_append_right _ (List.mem_append_right _ (List.mem_append_right _ (List.mem_append_left _ h))))))))))))
theorem Q3_9i {w : Cond} (h : w ∈ Q3_9) : w ∈ lw_tbl := List.mem_append_right _ (List.mem_append_right _ (List.mem_append_right _ (List.mem_append_left _ (by rw [Qe3]; exact List.mem_append_right _ (List.mem_append_right _ (List.mem_append_right _ (List.mem_append_right _ (List.mem_append_right _ (List.mem_append_right _ (List.mem_append_right _ (List.mem_append_right _ (List.mem_append_right _ (List.mem_append_left _ h)))))))))))))
theorem Q3_10i {w : Cond} (h : w ∈ Q3_10) : w ∈ lw_tbl := List.mem_append_right _ (List.mem_append_right _ (List.mem_append_right _ (List.mem_append_left _ (by rw [Qe3]; exact List.mem_append_right _ (List.mem_append_right _ (List.mem_append_right _ (List.mem_append_right _ (List.mem_append_right _ (List.mem_append_right _ (List.mem_append_right _ (List.mem_append_right _ (List.mem_append_right _ (List.mem_append_right _ (List.mem_append_left _ h))))))))))))))
theorem Q3_11i {w : Cond} (h : w ∈ Q3_11) : w ∈ lw_tbl := List.mem_append_right _ (List.mem_append_right _ (List.mem_append_right _ (List.mem_append_left _ (by rw [Qe3]; exact List.mem_append_right _ (List.mem_append_right _ (List.mem_append_right _ (List.mem_append_right _ (List.mem_append_right _ (List.mem_append_right _ (List.mem_append_right _ (List.mem_append_right _ (List.mem_append_right _ (List.mem_append_right _ (List.mem_append_right _ (List.mem_append_left _ h)))))))))))))))
theorem Q3_12i {w : Cond} (h : w ∈ Q3_12) : w ∈ lw_tbl := List.mem_append_right _ (List.mem_append_right _ (List.mem_append_right _ (List.mem_append_left _ (by rw [Qe3]; exact List.mem_append_right _ (List.mem_append_right _ (List.mem_append_right _ (List.mem_append_right _ (List.mem_append_right _ (List.mem_append_right _ (List.mem_append_right _ (List.mem_append_right _ (List.mem_append_right _ (List.mem_append_right _ (List.mem_append_right _ (List.mem_append_right _ (List.mem_append_left _ h))))))))))))))))
theorem Q3_13i {w : Cond} (h : w ∈ Q3_13) : w ∈ lw_tbl := List.mem_append_right _ (List.mem_append_right _ (List.mem_append_right _ (List.mem_append_left _ (by rw [Qe3]; exact List.mem_append_right _ (List.mem_append_right _ (List.mem_append_right _ (List.mem_append_right _ (List.mem_append_right _ (List.mem_append_right _ (List.mem_append_right _ (List.mem_append_right _ (List.mem_append_right _ (List.mem_append_right _ (List.mem_append_right _ (List.mem_append_right _ (List.mem_append_right _ (List.mem_append_left _ h)))))))))))))))))
theorem Q3_14i {w : Cond} (h : w ∈ Q3_14) : w ∈ lw_tbl := List.mem_append_right _ (List.mem_append_right _ (List.mem_append_right _ (List.mem_append_left _ (by rw [Qe3]; exact List.mem_append_right _ (List.mem_append_right _ (List.mem_append_right _ (List.mem_append_right _ (List.mem_append_right _ (List.mem_append_right _ (List.mem_append_right _ (List.mem_append_right _ (List.mem_append_right _ (List.mem_append_right _ (List.mem_append_right _ (List.mem_append_right _ (List.mem_append_right _ (List.mem_append_right _ (h))))))))))))))))))
def Q4_0 : List Cond := [Cond.methodLink RX3 107 yX3_weight, Cond.privateMethod yX3_weight, Cond.instanceMethod yX3_weight, Cond.code yX3_weight cX3_weight 4 (some .long), Cond.constantLong RX3 114 (1000000), Cond.methodLink RX3 116 Lib.MathLoose.max_long.x, Cond.methodLink RX3 110 yJ9_floorDiv_f86c9, Cond.methodLink RL 178 yL_synchronize, Cond.static yL_synchronize, Cond.codeWith yL_synchronize cL_synchronize 3 (some .int) [(0, 8, 11, 19)], Cond.methodLink RL 68 yX5_synchronize, Cond.instanceMethod yX5_synchronize, Cond.selects RX5 yX5_synchronize yX5_synchronize, Cond.code yX5_synchronize cX5_synchronize 4 (some .int), Cond.methodLink RX5 172 yX5_correctRate, Cond.privateMethod yX5_correctRate]
def Q4_1 : List Cond := [Cond.instanceMethod yX5_correctRate, Cond.code yX5_correctRate cX5_correctRate 7 none, Cond.constantLong RX5 244 (1000000), Cond.constantLong RX5 246 (4), Cond.methodLink RX5 248 yX1_addCorrection, Cond.instanceMethod yX1_addCorrection, Cond.selects RX1 yX1_addCorrection yX1_addCorrection, Cond.code yX1_addCorrection cX1_addCorrection 5 none, Cond.constantLong RX1 41 (-500), Cond.methodLink RX5 176 yX5_correctTime, Cond.privateMethod yX5_correctTime, Cond.instanceMethod yX5_correctTime, Cond.code yX5_correctTime cX5_correctTime 3 (some .int), Cond.constantLong RX5 251 (128000), Cond.methodLink RX5 253 yX1_step, Cond.instanceMethod yX1_step]
def Q4_2 : List Cond := [Cond.selects RX1 yX1_step yX1_step, Cond.code yX1_step cX1_step 3 none, Cond.methodLink RX5 256 yX1_slew, Cond.instanceMethod yX1_slew, Cond.selects RX1 yX1_slew yX1_slew, Cond.code yX1_slew cX1_slew 3 none, Cond.methodLink RX5 180 yX5_takeStratumOfPeer, Cond.privateMethod yX5_takeStratumOfPeer, Cond.instanceMethod yX5_takeStratumOfPeer, Cond.code yX5_takeStratumOfPeer cX5_takeStratumOfPeer 2 none, Cond.methodLink RX5 259 yX4_ownStratum, Cond.methodLink RX5 183 yX5_forgetSamples, Cond.privateMethod yX5_forgetSamples, Cond.instanceMethod yX5_forgetSamples, Cond.code yX5_forgetSamples cX5_forgetSamples 3 none, Cond.methodLink RX5 262 yX4_forget]
def Q4_3 : List Cond := [Cond.classLink RL 73 RX6, Cond.instantiable RX6 26, Cond.methodLink RL 75 yX6_init, Cond.instanceMethod yX6_init, Cond.code yX6_init cX6_init 1 none, Cond.methodLink RX6 1 objectInit, Cond.fieldLink RX6 49 "ClockhouseModel" "refusal" "I", Cond.fieldLink RX6 74 "ClockhouseModel" "now" "J", Cond.fieldLink RX6 52 "ClockhouseModel" "picos" "J", Cond.fieldLink RX6 77 "ClockhouseModel" "pending" "J", Cond.fieldLink RX6 80 "ClockhouseModel" "drift" "I", Cond.fieldLink RX6 83 "ClockhouseModel" "correction" "I", Cond.fieldLink RX6 86 "ClockhouseModel" "steps" "I", Cond.fieldLink RX6 89 "ClockhouseModel" "synchronizations" "I", Cond.fieldLink RX6 7 "ClockhouseModel" "stratum" "I", Cond.fieldLink RX6 92 "ClockhouseModel" "lastReading" "J"]
def Q4_4 : List Cond := [Cond.fieldLink RX6 13 "ClockhouseModel" "leaps" "[I", Cond.fieldLink RX6 95 "ClockhouseModel" "servers" "I", Cond.fieldLink RX6 17 "ClockhouseModel" "strata" "[I", Cond.fieldLink RX6 20 "ClockhouseModel" "errors" "[I", Cond.fieldLink RX6 23 "ClockhouseModel" "rootDelays" "[I", Cond.fieldLink RX6 26 "ClockhouseModel" "rootDispersions" "[I", Cond.fieldLink RX6 29 "ClockhouseModel" "kept" "[I", Cond.fieldLink RX6 32 "ClockhouseModel" "offsets" "[J", Cond.fieldLink RX6 36 "ClockhouseModel" "delays" "[J", Cond.fieldLink RX6 39 "ClockhouseModel" "times" "[J", Cond.fieldLink RX6 178 "ClockhouseModel" "candidates" "I", Cond.fieldLink RX6 181 "ClockhouseModel" "most" "I", Cond.fieldLink RX6 188 "ClockhouseModel" "lowEnd" "J", Cond.fieldLink RX6 191 "ClockhouseModel" "highEnd" "J", Cond.fieldLink RX6 42 "ClockhouseModel" "agrees" "[Z", Cond.fieldLink RX6 46 "ClockhouseModel" "survives" "[Z"]
def Q4_5 : List Cond := [Cond.lays "ClockhouseModel" "ClockhouseModel" "refusal" "I", Cond.soleField "ClockhouseModel" "refusal", Cond.lays "ClockhouseModel" "ClockhouseModel" "now" "J", Cond.soleField "ClockhouseModel" "now", Cond.lays "ClockhouseModel" "ClockhouseModel" "picos" "J", Cond.soleField "ClockhouseModel" "picos", Cond.lays "ClockhouseModel" "ClockhouseModel" "pending" "J", Cond.soleField "ClockhouseModel" "pending", Cond.lays "ClockhouseModel" "ClockhouseModel" "drift" "I", Cond.soleField "ClockhouseModel" "drift", Cond.lays "ClockhouseModel" "ClockhouseModel" "correction" "I", Cond.soleField "ClockhouseModel" "correction", Cond.lays "ClockhouseModel" "ClockhouseModel" "steps" "I", Cond.soleField "ClockhouseModel" "steps", Cond.lays "ClockhouseModel" "ClockhouseModel" "synchronizations" "I", Cond.soleField "ClockhouseModel" "synchronizations"]
def Q4_6 : List Cond := [Cond.lays "ClockhouseModel" "ClockhouseModel" "stratum" "I", Cond.soleField "ClockhouseModel" "stratum", Cond.lays "ClockhouseModel" "ClockhouseModel" "lastReading" "J", Cond.soleField "ClockhouseModel" "lastReading", Cond.laysFinal "ClockhouseModel" "ClockhouseModel" "leaps" "[I", Cond.soleField "ClockhouseModel" "leaps", Cond.lays "ClockhouseModel" "ClockhouseModel" "servers" "I", Cond.soleField "ClockhouseModel" "servers", Cond.laysFinal "ClockhouseModel" "ClockhouseModel" "strata" "[I", Cond.soleField "ClockhouseModel" "strata", Cond.laysFinal "ClockhouseModel" "ClockhouseModel" "errors" "[I", Cond.soleField "ClockhouseModel" "errors", Cond.laysFinal "ClockhouseModel" "ClockhouseModel" "rootDelays" "[I", Cond.soleField "ClockhouseModel" "rootDelays", Cond.laysFinal "ClockhouseModel" "ClockhouseModel" "rootDispersions" "[I", Cond.soleField "ClockhouseModel" "rootDispersions"]
def Q4_7 : List Cond := [Cond.laysFinal "ClockhouseModel" "ClockhouseModel" "kept" "[I", Cond.soleField "ClockhouseModel" "kept", Cond.laysFinal "ClockhouseModel" "ClockhouseModel" "offsets" "[J", Cond.soleField "ClockhouseModel" "offsets", Cond.laysFinal "ClockhouseModel" "ClockhouseModel" "delays" "[J", Cond.soleField "ClockhouseModel" "delays", Cond.laysFinal "ClockhouseModel" "ClockhouseModel" "times" "[J", Cond.soleField "ClockhouseModel" "times", Cond.lays "ClockhouseModel" "ClockhouseModel" "candidates" "I", Cond.soleField "ClockhouseModel" "candidates", Cond.lays "ClockhouseModel" "ClockhouseModel" "most" "I", Cond.soleField "ClockhouseModel" "most", Cond.lays "ClockhouseModel" "ClockhouseModel" "lowEnd" "J", Cond.soleField "ClockhouseModel" "lowEnd", Cond.lays "ClockhouseModel" "ClockhouseModel" "highEnd" "J", Cond.soleField "ClockhouseModel" "highEnd"]
def Q4_8 : List Cond := [Cond.laysFinal "ClockhouseModel" "ClockhouseModel" "agrees" "[Z", Cond.soleField "ClockhouseModel" "agrees", Cond.laysFinal "ClockhouseModel" "ClockhouseModel" "survives" "[Z", Cond.soleField "ClockhouseModel" "survives", Cond.superclass "ClockhouseModel" "java/lang/Object", Cond.arrayClass .int, Cond.arrayClass .boolean, Cond.methodLink RL 81 yX6_restart, Cond.instanceMethod yX6_restart, Cond.selects RX6 yX6_restart yX6_restart, Cond.code yX6_restart cX6_restart 3 none, Cond.constantLong RX6 62 (-1000000000), Cond.constantLong RX6 64 (1000000000), Cond.methodLink RX6 66 yX6_in, Cond.static yX6_in, Cond.code yX6_in cX6_in 6 (some .boolean)]
def Q4_9 : List Cond := [Cond.methodLink RX6 70 yX6_refused, Cond.privateMethod yX6_refused, Cond.instanceMethod yX6_refused, Cond.code yX6_refused cX6_refused 2 (some .boolean), Cond.constantLong RX6 56 (1000000), Cond.methodLink RL 85 yX6_pass, Cond.instanceMethod yX6_pass, Cond.selects RX6 yX6_pass yX6_pass, Cond.code yX6_pass cX6_pass 2 (some .long), Cond.constantLong RX6 100 (1000000000000), Cond.methodLink RX6 102 yX6_goOn, Cond.privateMethod yX6_goOn, Cond.instanceMethod yX6_goOn, Cond.code yX6_goOn cX6_goOn 6 none, Cond.constantLong RX6 98 (500), Cond.methodLink RX6 106 yX6_reading]
def Q4_10 : List Cond := [Cond.privateMethod yX6_reading, Cond.instanceMethod yX6_reading, Cond.code yX6_reading cX6_reading 1 (some .long), Cond.methodLink RX6 58 yX6_down, Cond.static yX6_down, Cond.code yX6_down cX6_down 6 (some .long), Cond.methodLink RL 88 yX6_setDrift, Cond.instanceMethod yX6_setDrift, Cond.selects RX6 yX6_setDrift yX6_setDrift, Cond.code yX6_setDrift cX6_setDrift 3 (some .int), Cond.constantLong RX6 110 (-300), Cond.constantLong RX6 112 (300), Cond.methodLink RL 92 yX6_trueTime, Cond.instanceMethod yX6_trueTime, Cond.selects RX6 yX6_trueTime yX6_trueTime, Cond.code yX6_trueTime cX6_trueTime 1 (some .long)]
def Q4_11 : List Cond := [Cond.methodLink RX6 114 yX6_fineLong, Cond.privateMethod yX6_fineLong, Cond.instanceMethod yX6_fineLong, Cond.code yX6_fineLong cX6_fineLong 3 (some .long), Cond.methodLink RL 96 yX6_clock, Cond.instanceMethod yX6_clock, Cond.selects RX6 yX6_clock yX6_clock, Cond.code yX6_clock cX6_clock 1 (some .long), Cond.methodLink RL 100 yX6_error, Cond.instanceMethod yX6_error, Cond.selects RX6 yX6_error yX6_error, Cond.code yX6_error cX6_error 1 (some .long), Cond.methodLink RL 104 yX6_pendingSlew, Cond.instanceMethod yX6_pendingSlew, Cond.selects RX6 yX6_pendingSlew yX6_pendingSlew, Cond.code yX6_pendingSlew cX6_pendingSlew 1 (some .long)]
def Q4_12 : List Cond := [Cond.methodLink RL 108 yX6_correction, Cond.instanceMethod yX6_correction, Cond.selects RX6 yX6_correction yX6_correction, Cond.code yX6_correction cX6_correction 1 (some .int), Cond.methodLink RX6 118 yX6_fine, Cond.privateMethod yX6_fine, Cond.instanceMethod yX6_fine, Cond.code yX6_fine cX6_fine 2 (some .int), Cond.methodLink RL 112 yX6_announceLeap, Cond.instanceMethod yX6_announceLeap, Cond.selects RX6 yX6_announceLeap yX6_announceLeap, Cond.code yX6_announceLeap cX6_announceLeap 4 (some .long), Cond.constantLong RX6 126 (20), Cond.methodLink RX6 128 yX6_smearFrom, Cond.static yX6_smearFrom, Cond.code yX6_smearFrom cX6_smearFrom 1 (some .long)]
def Q4_13 : List Cond := [Cond.constantLong RX6 122 (86400000000), Cond.constantLong RX6 124 (20000000000), Cond.methodLink RL 116 yX6_civil, Cond.instanceMethod yX6_civil, Cond.selects RX6 yX6_civil yX6_civil, Cond.code yX6_civil cX6_civil 8 (some .long), Cond.constantLong RX6 132 (20000), Cond.methodLink RL 120 yX6_addServer, Cond.instanceMethod yX6_addServer, Cond.selects RX6 yX6_addServer yX6_addServer, Cond.code yX6_addServer cX6_addServer 6 (some .int), Cond.constantLong RX6 134 (14), Cond.constantLong RX6 136 (-1000000), Cond.methodLink RL 124 yX6_setError, Cond.instanceMethod yX6_setError, Cond.selects RX6 yX6_setError yX6_setError]
def Q4_14 : List Cond := [Cond.code yX6_setError cX6_setError 4 (some .int), Cond.methodLink RX6 138 yX6_isServer, Cond.privateMethod yX6_isServer, Cond.instanceMethod yX6_isServer, Cond.code yX6_isServer cX6_isServer 2 (some .boolean), Cond.methodLink RL 127 yX6_exchange, Cond.instanceMethod yX6_exchange, Cond.selects RX6 yX6_exchange yX6_exchange, Cond.code yX6_exchange cX6_exchange 16 (some .long), Cond.constantLong RX6 141 (500000), Cond.constantLong RX6 143 (100000), Cond.constantLong RX6 145 (2), Cond.methodLink RX6 147 yX6_keep, Cond.privateMethod yX6_keep, Cond.instanceMethod yX6_keep, Cond.code yX6_keep cX6_keep 10 none]
set_option maxRecDepth 100000 in
theorem Qe4 : tables_1_4 = Q4_0 ++ (Q4_1 ++ (Q4_2 ++ (Q4_3 ++ (Q4_4 ++ (Q4_5 ++ (Q4_6 ++ (Q4_7 ++ (Q4_8 ++ (Q4_9 ++ (Q4_10 ++ (Q4_11 ++ (Q4_12 ++ (Q4_13 ++ (Q4_14)))))))))))))) := rfl
theorem Q4_0i {w : Cond} (h : w ∈ Q4_0) : w ∈ lw_tbl := List.mem_append_right _ (List.mem_append_right _ (List.mem_append_right _ (List.mem_append_right _ (List.mem_append_left _ (by rw [Qe4]; exact List.mem_append_left _ h)))))
theorem Q4_1i {w : Cond} (h : w ∈ Q4_1) : w ∈ lw_tbl := List.mem_append_right _ (List.mem_append_right _ (List.mem_append_right _ (List.mem_append_right _ (List.mem_append_left _ (by rw [Qe4]; exact List.mem_append_right _ (List.mem_append_left _ h))))))
theorem Q4_2i {w : Cond} (h : w ∈ Q4_2) : w ∈ lw_tbl := List.mem_append_right _ (List.mem_append_right _ (List.mem_append_right _ (List.mem_append_right _ (List.mem_append_left _ (by rw [Qe4]; exact List.mem_append_right _ (List.mem_append_right _ (List.mem_append_left _ h)))))))
theorem Q4_3i {w : Cond} (h : w ∈ Q4_3) : w ∈ lw_tbl := List.mem_append_right _ (List.mem_append_right _ (List.mem_append_right _ (List.mem_append_right _ (List.mem_append_left _ (by rw [Qe4]; exact List.mem_append_right _ (List.mem_append_right _ (List.mem_append_right _ (List.mem_append_left _ h))))))))
theorem Q4_4i {w : Cond} (h : w ∈ Q4_4) : w ∈ lw_tbl := List.mem_append_right _ (List.mem_append_right _ (List.mem_append_right _ (List.mem_append_right _ (List.mem_append_left _ (by rw [Qe4]; exact List.mem_append_right _ (List.mem_append_right _ (List.mem_append_right _ (List.mem_append_right _ (List.mem_append_left _ h)))))))))
theorem Q4_5i {w : Cond} (h : w ∈ Q4_5) : w ∈ lw_tbl := List.mem_append_right _ (List.mem_append_right _ (List.mem_append_right _ (List.mem_append_right _ (List.mem_append_left _ (by rw [Qe4]; exact List.mem_append_right _ (List.mem_append_right _ (List.mem_append_right _ (List.mem_append_right _ (List.mem_append_right _ (List.mem_append_left _ h))))))))))
theorem Q4_6i {w : Cond} (h : w ∈ Q4_6) : w ∈ lw_tbl := List.mem_append_right _ (List.mem_append_right _ (List.mem_append_right _ (List.mem_append_right _ (List.mem_append_left _ (by rw [Qe4]; exact List.mem_append_right _ (List.mem_append_right _ (List.mem_append_right _ (List.mem_append_right _ (List.mem_append_right _ (List.mem_append_right _ (List.mem_append_left _ h)))))))))))
theorem Q4_7i {w : Cond} (h : w ∈ Q4_7) : w ∈ lw_tbl := List.mem_append_right _ (List.mem_append_right _ (List.mem_append_right _ (List.mem_append_right _ (List.mem_append_left _ (by rw [Qe4]; exact List.mem_append_right _ (List.mem_append_right _ (List.mem_append_right _ (List.mem_append_right _ (List.mem_append_right _ (List.mem_append_right _ (List.mem_append_right _ (List.mem_append_left _ h))))))))))))
theorem Q4_8i {w : Cond} (h : w ∈ Q4_8) : w ∈ lw_tbl := List.mem_append_right _ (List.mem_append_right _ (List.mem_append_right _ (List.mem_append_right _ (List.mem_append_left _ (by rw [Qe4]; exact List.mem_append_right _ (List.mem_append_right _ (List.mem_append_right _ (List.mem_append_right _ (List.mem_append_right _ (List.mem_append_right _ (List.mem_append_right _ (List.mem_append_right _ (List.mem_append_left _ h)))))))))))))
theorem Q4_9i {w : Cond} (h : w ∈ Q4_9) : w ∈ lw_tbl := List.mem_append_right _ (List.mem_append_right _ (List.mem_append_right _ (List.mem_append_right _ (List.mem_append_left _ (by rw [Qe4]; exact List.mem_append_right _ (List.mem_append_right _ (List.mem_append_right _ (List.mem_append_right _ (List.mem_append_right _ (List.mem_append_right _ (List.mem_append_right _ (List.mem_append_right _ (List.mem_append_right _ (List.mem_append_left _ h))))))))))))))
theorem Q4_10i {w : Cond} (h : w ∈ Q4_10) : w ∈ lw_tbl := List.mem_append_right _ (List.mem_append_right _ (List.mem_append_right _ (List.mem_append_right _ (List.mem_append_left _ (by rw [Qe4]; exact List.mem_append_right _ (List.mem_append_right _ (List.mem_append_right _ (List.mem_append_right _ (List.mem_append_right _ (List.mem_append_right _ (List.mem_append_right _ (List.mem_append_right _ (List.mem_append_right _ (List.mem_append_right _ (List.mem_append_left _ h)))))))))))))))
theorem Q4_11i {w : Cond} (h : w ∈ Q4_11) : w ∈ lw_tbl := List.mem_append_right _ (List.mem_append_right _ (List.mem_append_right _ (List.mem_append_right _ (List.mem_append_left _ (by rw [Qe4]; exact List.mem_append_right _ (List.mem_append_right _ (List.mem_append_right _ (List.mem_append_right _ (List.mem_append_right _ (List.mem_append_right _ (List.mem_append_right _ (List.mem_append_right _ (List.mem_append_right _ (List.mem_append_right _ (List.mem_append_right _ (List.mem_append_left _ h))))))))))))))))
theorem Q4_12i {w : Cond} (h : w ∈ Q4_12) : w ∈ lw_tbl := List.mem_append_right _ (List.mem_append_right _ (List.mem_append_right _ (List.mem_append_right _ (List.mem_append_left _ (by rw [Qe4]; exact List.mem_append_right _ (List.mem_append_right _ (List.mem_append_right _ (List.mem_append_right _ (List.mem_append_right _ (List.mem_append_right _ (List.mem_append_right _ (List.mem_append_right _ (List.mem_append_right _ (List.mem_append_right _ (List.mem_append_right _ (List.mem_append_right _ (List.mem_append_left _ h)))))))))))))))))
theorem Q4_13i {w : Cond} (h : w ∈ Q4_13) : w ∈ lw_tbl := List.mem_append_right _ (List.mem_append_right _ (List.mem_append_right _ (List.mem_append_right _ (List.mem_append_left _ (by rw [Qe4]; exact List.mem_append_right _ (List.mem_append_right _ (List.mem_append_right _ (List.mem_append_right _ (List.mem_append_right _ (List.mem_append_right _ (List.mem_append_right _ (List.mem_append_right _ (List.mem_append_right _ (List.mem_append_right _ (List.mem_append_right _ (List.mem_append_right _ (List.mem_append_right _ (List.mem_append_left _ h))))))))))))))))))
theorem Q4_14i {w : Cond} (h : w ∈ Q4_14) : w ∈ lw_tbl := List.mem_append_right _ (List.mem_append_right _ (List.mem_append_right _ (List.mem_append_right _ (List.mem_append_left _ (by rw [Qe4]; exact List.mem_append_right _ (List.mem_append_right _ (List.mem_append_right _ (List.mem_append_right _ (List.mem_append_right _ (List.mem_append_right _ (List.mem_append_right _ (List.mem_append_right _ (List.mem_append_right _ (List.mem_append_right _ (List.mem_append_right _ (List.mem_append_right _ (List.mem_append_right _ (List.mem_append_right _ (h)))))))))))))))))))
def Q5_0 : List Cond := [Cond.methodLink RL 131 yX6_servers, Cond.instanceMethod yX6_servers, Cond.selects RX6 yX6_servers yX6_servers, Cond.code yX6_servers cX6_servers 1 (some .int), Cond.methodLink RL 134 yX6_samples, Cond.instanceMethod yX6_samples, Cond.selects RX6 yX6_samples yX6_samples, Cond.code yX6_samples cX6_samples 2 (some .int), Cond.methodLink RL 137 yX6_offset, Cond.instanceMethod yX6_offset, Cond.selects RX6 yX6_offset yX6_offset, Cond.code yX6_offset cX6_offset 2 (some .long), Cond.methodLink RX6 162 yX6_noSample, Cond.privateMethod yX6_noSample, Cond.instanceMethod yX6_noSample, Cond.code yX6_noSample cX6_noSample 2 (some .boolean)]
def Q5_1 : List Cond := [Cond.methodLink RX6 151 yX6_best, Cond.privateMethod yX6_best, Cond.instanceMethod yX6_best, Cond.code yX6_best cX6_best 4 (some .int), Cond.methodLink RL 140 yX6_delay, Cond.instanceMethod yX6_delay, Cond.selects RX6 yX6_delay yX6_delay, Cond.code yX6_delay cX6_delay 2 (some .long), Cond.methodLink RL 143 yX6_jitter, Cond.instanceMethod yX6_jitter, Cond.selects RX6 yX6_jitter yX6_jitter, Cond.code yX6_jitter cX6_jitter 2 (some .long), Cond.methodLink RX6 157 yX6_jitterOf, Cond.privateMethod yX6_jitterOf, Cond.instanceMethod yX6_jitterOf, Cond.code yX6_jitterOf cX6_jitterOf 5 (some .long)]
def Q5_2 : List Cond := [Cond.methodLink RX6 154 yX6_size, Cond.static yX6_size, Cond.code yX6_size cX6_size 2 (some .long), Cond.methodLink RL 146 yX6_distance, Cond.instanceMethod yX6_distance, Cond.selects RX6 yX6_distance yX6_distance, Cond.code yX6_distance cX6_distance 2 (some .long), Cond.methodLink RX6 165 yX6_distanceOf, Cond.privateMethod yX6_distanceOf, Cond.instanceMethod yX6_distanceOf, Cond.code yX6_distanceOf cX6_distanceOf 3 (some .long), Cond.constantLong RX6 160 (15), Cond.methodLink RL 150 yX6_agreement, Cond.instanceMethod yX6_agreement, Cond.selects RX6 yX6_agreement yX6_agreement, Cond.code yX6_agreement cX6_agreement 1 (some .int)]
def Q5_3 : List Cond := [Cond.methodLink RX6 201 yX6_intersect, Cond.privateMethod yX6_intersect, Cond.instanceMethod yX6_intersect, Cond.code yX6_intersect cX6_intersect 4 none, Cond.methodLink RX6 168 yX6_from, Cond.privateMethod yX6_from, Cond.instanceMethod yX6_from, Cond.code yX6_from cX6_from 2 (some .long), Cond.methodLink RX6 184 yX6_covers, Cond.privateMethod yX6_covers, Cond.instanceMethod yX6_covers, Cond.code yX6_covers cX6_covers 5 (some .int), Cond.methodLink RX6 174 yX6_has, Cond.privateMethod yX6_has, Cond.instanceMethod yX6_has, Cond.code yX6_has cX6_has 4 (some .boolean)]
def Q5_4 : List Cond := [Cond.methodLink RX6 171 yX6_to, Cond.privateMethod yX6_to, Cond.instanceMethod yX6_to, Cond.code yX6_to cX6_to 2 (some .long), Cond.methodLink RL 155 yX6_hasMajority, Cond.instanceMethod yX6_hasMajority, Cond.selects RX6 yX6_hasMajority yX6_hasMajority, Cond.code yX6_hasMajority cX6_hasMajority 1 (some .boolean), Cond.methodLink RL 159 yX6_agreeing, Cond.instanceMethod yX6_agreeing, Cond.selects RX6 yX6_agreeing yX6_agreeing, Cond.code yX6_agreeing cX6_agreeing 1 (some .int), Cond.methodLink RX6 208 yX6_set, Cond.static yX6_set, Cond.code yX6_set cX6_set 3 (some .int), Cond.methodLink RL 163 yX6_low]
def Q5_5 : List Cond := [Cond.instanceMethod yX6_low, Cond.selects RX6 yX6_low yX6_low, Cond.code yX6_low cX6_low 1 (some .long), Cond.methodLink RL 166 yX6_high, Cond.instanceMethod yX6_high, Cond.selects RX6 yX6_high yX6_high, Cond.code yX6_high cX6_high 1 (some .long), Cond.methodLink RL 170 yX6_survivors, Cond.instanceMethod yX6_survivors, Cond.selects RX6 yX6_survivors yX6_survivors, Cond.code yX6_survivors cX6_survivors 1 (some .int), Cond.methodLink RX6 212 yX6_select, Cond.privateMethod yX6_select, Cond.instanceMethod yX6_select, Cond.code yX6_select cX6_select 2 none, Cond.methodLink RX6 194 yX6_surviving]
def Q5_6 : List Cond := [Cond.privateMethod yX6_surviving, Cond.instanceMethod yX6_surviving, Cond.code yX6_surviving cX6_surviving 3 (some .int), Cond.methodLink RX6 204 yX6_removes, Cond.privateMethod yX6_removes, Cond.instanceMethod yX6_removes, Cond.code yX6_removes cX6_removes 6 (some .boolean), Cond.methodLink RX6 198 yX6_spread, Cond.privateMethod yX6_spread, Cond.instanceMethod yX6_spread, Cond.code yX6_spread cX6_spread 5 (some .long), Cond.methodLink RL 173 yX6_combinedOffset, Cond.instanceMethod yX6_combinedOffset, Cond.selects RX6 yX6_combinedOffset yX6_combinedOffset, Cond.code yX6_combinedOffset cX6_combinedOffset 1 (some .long), Cond.methodLink RX6 215 yX6_combined]
def Q5_7 : List Cond := [Cond.privateMethod yX6_combined, Cond.instanceMethod yX6_combined, Cond.code yX6_combined cX6_combined 8 (some .long), Cond.methodLink RL 177 yX6_peer, Cond.instanceMethod yX6_peer, Cond.selects RX6 yX6_peer yX6_peer, Cond.code yX6_peer cX6_peer 1 (some .int), Cond.methodLink RX6 218 yX6_leader, Cond.privateMethod yX6_leader, Cond.instanceMethod yX6_leader, Cond.code yX6_leader cX6_leader 4 (some .int), Cond.methodLink RL 180 yX6_synchronize, Cond.instanceMethod yX6_synchronize, Cond.selects RX6 yX6_synchronize yX6_synchronize, Cond.code yX6_synchronize cX6_synchronize 7 (some .int), Cond.constantLong RX6 223 (4)]
def Q5_8 : List Cond := [Cond.methodLink RX6 225 yX6_held, Cond.static yX6_held, Cond.code yX6_held cX6_held 2 (some .int), Cond.constantLong RX6 221 (-500), Cond.constantLong RX6 228 (128000), Cond.methodLink RL 184 yX6_stratum, Cond.instanceMethod yX6_stratum, Cond.selects RX6 yX6_stratum yX6_stratum, Cond.code yX6_stratum cX6_stratum 1 (some .int), Cond.methodLink RL 188 yX6_steps, Cond.instanceMethod yX6_steps, Cond.selects RX6 yX6_steps yX6_steps, Cond.code yX6_steps cX6_steps 1 (some .int), Cond.methodLink RL 192 yX6_synchronizations, Cond.instanceMethod yX6_synchronizations, Cond.selects RX6 yX6_synchronizations yX6_synchronizations]
def Q5_9 : List Cond := [Cond.code yX6_synchronizations cX6_synchronizations 1 (some .int), Cond.sameMethod "java/lang/Throwable" "java/lang/Throwable" "fillInStackTrace" "(I)Ljava/lang/Throwable;"]
set_option maxRecDepth 100000 in
theorem Qe5 : tables_1_5 = Q5_0 ++ (Q5_1 ++ (Q5_2 ++ (Q5_3 ++ (Q5_4 ++ (Q5_5 ++ (Q5_6 ++ (Q5_7 ++ (Q5_8 ++ (Q5_9))))))))) := rfl
theorem Q5_0i {w : Cond} (h : w ∈ Q5_0) : w ∈ lw_tbl := List.mem_append_right _ (List.mem_append_right _ (List.mem_append_right _ (List.mem_append_right _ (List.mem_append_right _ (by rw [Qe5]; exact List.mem_append_left _ h)))))
theorem Q5_1i {w : Cond} (h : w ∈ Q5_1) : w ∈ lw_tbl := List.mem_append_right _ (List.mem_append_right _ (List.mem_append_right _ (List.mem_append_right _ (List.mem_append_right _ (by rw [Qe5]; exact List.mem_append_right _ (List.mem_append_left _ h))))))
theorem Q5_2i {w : Cond} (h : w ∈ Q5_2) : w ∈ lw_tbl := List.mem_append_right _ (List.mem_append_right _ (List.mem_append_right _ (List.mem_append_right _ (List.mem_append_right _ (by rw [Qe5]; exact List.mem_append_right _ (List.mem_append_right _ (List.mem_append_left _ h)))))))
theorem Q5_3i {w : Cond} (h : w ∈ Q5_3) : w ∈ lw_tbl := List.mem_append_right _ (List.mem_append_right _ (List.mem_append_right _ (List.mem_append_right _ (List.mem_append_right _ (by rw [Qe5]; exact List.mem_append_right _ (List.mem_append_right _ (List.mem_append_right _ (List.mem_append_left _ h))))))))
theorem Q5_4i {w : Cond} (h : w ∈ Q5_4) : w ∈ lw_tbl := List.mem_append_right _ (List.mem_append_right _ (List.mem_append_right _ (List.mem_append_right _ (List.mem_append_right _ (by rw [Qe5]; exact List.mem_append_right _ (List.mem_append_right _ (List.mem_append_right _ (List.mem_append_right _ (List.mem_append_left _ h)))))))))
theorem Q5_5i {w : Cond} (h : w ∈ Q5_5) : w ∈ lw_tbl := List.mem_append_right _ (List.mem_append_right _ (List.mem_append_right _ (List.mem_append_right _ (List.mem_append_right _ (by rw [Qe5]; exact List.mem_append_right _ (List.mem_append_right _ (List.mem_append_right _ (List.mem_append_right _ (List.mem_append_right _ (List.mem_append_left _ h))))))))))
theorem Q5_6i {w : Cond} (h : w ∈ Q5_6) : w ∈ lw_tbl := List.mem_append_right _ (List.mem_append_right _ (List.mem_append_right _ (List.mem_append_right _ (List.mem_append_right _ (by rw [Qe5]; exact List.mem_append_right _ (List.mem_append_right _ (List.mem_append_right _ (List.mem_append_right _ (List.mem_append_right _ (List.mem_append_right _ (List.mem_append_left _ h)))))))))))
theorem Q5_7i {w : Cond} (h : w ∈ Q5_7) : w ∈ lw_tbl := List.mem_append_right _ (List.mem_append_right _ (List.mem_append_right _ (List.mem_append_right _ (List.mem_append_right _ (by rw [Qe5]; exact List.mem_append_right _ (List.mem_append_right _ (List.mem_append_right _ (List.mem_append_right _ (List.mem_append_right _ (List.mem_append_right _ (List.mem_append_right _ (List.mem_append_left _ h))))))))))))
theorem Q5_8i {w : Cond} (h : w ∈ Q5_8) : w ∈ lw_tbl := List.mem_append_right _ (List.mem_append_right _ (List.mem_append_right _ (List.mem_append_right _ (List.mem_append_right _ (by rw [Qe5]; exact List.mem_append_right _ (List.mem_append_right _ (List.mem_append_right _ (List.mem_append_right _ (List.mem_append_right _ (List.mem_append_right _ (List.mem_append_right _ (List.mem_append_right _ (List.mem_append_left _ h)))))))))))))
theorem Q5_9i {w : Cond} (h : w ∈ Q5_9) : w ∈ lw_tbl := List.mem_append_right _ (List.mem_append_right _ (List.mem_append_right _ (List.mem_append_right _ (List.mem_append_right _ (by rw [Qe5]; exact List.mem_append_right _ (List.mem_append_right _ (List.mem_append_right _ (List.mem_append_right _ (List.mem_append_right _ (List.mem_append_right _ (List.mem_append_right _ (List.mem_append_right _ (List.mem_append_right _ (h))))))))))))))
theorem q_0 : Cond.selects RX5 yX5_begin yX5_begin ∈ AG := List.mem_filter.mpr ⟨Q0_0i (List.mem_of_getElem? (i := 0) rfl), rfl⟩
theorem q_1 : Cond.selects RX5 yX5_select yX5_select ∈ AG := List.mem_filter.mpr ⟨Q0_0i (List.mem_of_getElem? (i := 1) rfl), rfl⟩
theorem q_2 : Cond.selects RX5 yX5_serverOrNull yX5_serverOrNull ∈ AG := List.mem_filter.mpr ⟨Q0_0i (List.mem_of_getElem? (i := 2) rfl), rfl⟩
theorem q_3 : Cond.selects RX5 yX5_roomOrNull yX5_roomOrNull ∈ AG := List.mem_filter.mpr ⟨Q0_0i (List.mem_of_getElem? (i := 3) rfl), rfl⟩
theorem q_4 : Cond.selects RX3 yX3_tryLowEnd yX3_tryLowEnd ∈ AG := List.mem_filter.mpr ⟨Q0_0i (List.mem_of_getElem? (i := 4) rfl), rfl⟩
theorem q_5 : Cond.selects RX3 yX3_intervalsWith yX3_intervalsWith ∈ AG := List.mem_filter.mpr ⟨Q0_0i (List.mem_of_getElem? (i := 5) rfl), rfl⟩
theorem q_6 : Cond.selects RX3 yX3_leastUpperEnd yX3_leastUpperEnd ∈ AG := List.mem_filter.mpr ⟨Q0_0i (List.mem_of_getElem? (i := 6) rfl), rfl⟩
theorem q_7 : Cond.selects RX3 yX3_widestSpread yX3_widestSpread ∈ AG := List.mem_filter.mpr ⟨Q0_0i (List.mem_of_getElem? (i := 7) rfl), rfl⟩
theorem q_8 : Cond.selects RX3 yX3_spread yX3_spread ∈ AG := List.mem_filter.mpr ⟨Q0_0i (List.mem_of_getElem? (i := 8) rfl), rfl⟩
theorem q_9 : Cond.selects RX3 yX3_leastJitter yX3_leastJitter ∈ AG := List.mem_filter.mpr ⟨Q0_0i (List.mem_of_getElem? (i := 9) rfl), rfl⟩
theorem q_10 : Cond.selects RX3 yX3_isBetter yX3_isBetter ∈ AG := List.mem_filter.mpr ⟨Q0_0i (List.mem_of_getElem? (i := 10) rfl), rfl⟩
theorem q_11 : Cond.selects "java/lang/Throwable" ⟨"java/lang/Throwable", "fillInStackTrace", "(I)Ljava/lang/Throwable;"⟩ ⟨"java/lang/Throwable", "fillInStackTrace", "(I)Ljava/lang/Throwable;"⟩ ∈ AG := List.mem_filter.mpr ⟨Q0_0i (List.mem_of_getElem? (i := 11) rfl), rfl⟩
theorem q_12 : Cond.selects RX5 yX5_isBeyondLastTrueTime yX5_isBeyondLastTrueTime ∈ AG := List.mem_filter.mpr ⟨Q0_0i (List.mem_of_getElem? (i := 12) rfl), rfl⟩
theorem q_13 : Cond.selects RX5 yX5_elapse yX5_elapse ∈ AG := List.mem_filter.mpr ⟨Q0_0i (List.mem_of_getElem? (i := 13) rfl), rfl⟩
theorem q_14 : Cond.selects RX5 yX5_knownServer yX5_knownServer ∈ AG := List.mem_filter.mpr ⟨Q0_0i (List.mem_of_getElem? (i := 14) rfl), rfl⟩
theorem q_15 : Cond.selects RX5 yX5_takeSample yX5_takeSample ∈ AG := List.mem_filter.mpr ⟨Q0_0i (List.mem_of_getElem? (i := 15) rfl), rfl⟩
theorem q_16 : Cond.selects RX4 yX4_leastDelay yX4_leastDelay ∈ AG := List.mem_filter.mpr ⟨Q0_1i (List.mem_of_getElem? (i := 0) rfl), rfl⟩
theorem q_17 : Cond.selects RX5 yX5_heardServer yX5_heardServer ∈ AG := List.mem_filter.mpr ⟨Q0_1i (List.mem_of_getElem? (i := 1) rfl), rfl⟩
theorem q_18 : Cond.selects RX5 yX5_selectFromSome yX5_selectFromSome ∈ AG := List.mem_filter.mpr ⟨Q0_1i (List.mem_of_getElem? (i := 2) rfl), rfl⟩
theorem q_19 : Cond.selects RX3 yX3_weight yX3_weight ∈ AG := List.mem_filter.mpr ⟨Q0_1i (List.mem_of_getElem? (i := 3) rfl), rfl⟩
theorem q_20 : Cond.selects RX5 yX5_correctRate yX5_correctRate ∈ AG := List.mem_filter.mpr ⟨Q0_1i (List.mem_of_getElem? (i := 4) rfl), rfl⟩
theorem q_21 : Cond.selects RX5 yX5_correctTime yX5_correctTime ∈ AG := List.mem_filter.mpr ⟨Q0_1i (List.mem_of_getElem? (i := 5) rfl), rfl⟩
theorem q_22 : Cond.selects RX5 yX5_takeStratumOfPeer yX5_takeStratumOfPeer ∈ AG := List.mem_filter.mpr ⟨Q0_1i (List.mem_of_getElem? (i := 6) rfl), rfl⟩
theorem q_23 : Cond.selects RX5 yX5_forgetSamples yX5_forgetSamples ∈ AG := List.mem_filter.mpr ⟨Q0_1i (List.mem_of_getElem? (i := 7) rfl), rfl⟩
theorem q_24 : Cond.selects RX6 yX6_refused yX6_refused ∈ AG := List.mem_filter.mpr ⟨Q0_1i (List.mem_of_getElem? (i := 8) rfl), rfl⟩
theorem q_25 : Cond.selects RX6 yX6_goOn yX6_goOn ∈ AG := List.mem_filter.mpr ⟨Q0_1i (List.mem_of_getElem? (i := 9) rfl), rfl⟩
theorem q_26 : Cond.selects RX6 yX6_reading yX6_reading ∈ AG := List.mem_filter.mpr ⟨Q0_1i (List.mem_of_getElem? (i := 10) rfl), rfl⟩
theorem q_27 : Cond.selects RX6 yX6_fineLong yX6_fineLong ∈ AG := List.mem_filter.mpr ⟨Q0_1i (List.mem_of_getElem? (i := 11) rfl), rfl⟩
theorem q_28 : Cond.selects RX6 yX6_fine yX6_fine ∈ AG := List.mem_filter.mpr ⟨Q0_1i (List.mem_of_getElem? (i := 12) rfl), rfl⟩
theorem q_29 : Cond.selects RX6 yX6_isServer yX6_isServer ∈ AG := List.mem_filter.mpr ⟨Q0_1i (List.mem_of_getElem? (i := 13) rfl), rfl⟩
theorem q_30 : Cond.selects RX6 yX6_keep yX6_keep ∈ AG := List.mem_filter.mpr ⟨Q0_1i (List.mem_of_getElem? (i := 14) rfl), rfl⟩
theorem q_31 : Cond.selects RX6 yX6_noSample yX6_noSample ∈ AG := List.mem_filter.mpr ⟨Q0_1i (List.mem_of_getElem? (i := 15) rfl), rfl⟩
theorem q_32 : Cond.selects RX6 yX6_best yX6_best ∈ AG := List.mem_filter.mpr ⟨Q0_2i (List.mem_of_getElem? (i := 0) rfl), rfl⟩
theorem q_33 : Cond.selects RX6 yX6_jitterOf yX6_jitterOf ∈ AG := List.mem_filter.mpr ⟨Q0_2i (List.mem_of_getElem? (i := 1) rfl), rfl⟩
theorem q_34 : Cond.selects RX6 yX6_distanceOf yX6_distanceOf ∈ AG := List.mem_filter.mpr ⟨Q0_2i (List.mem_of_getElem? (i := 2) rfl), rfl⟩
theorem q_35 : Cond.selects RX6 yX6_intersect yX6_intersect ∈ AG := List.mem_filter.mpr ⟨Q0_2i (List.mem_of_getElem? (i := 3) rfl), rfl⟩
theorem q_36 : Cond.selects RX6 yX6_from yX6_from ∈ AG := List.mem_filter.mpr ⟨Q0_2i (List.mem_of_getElem? (i := 4) rfl), rfl⟩
theorem q_37 : Cond.selects RX6 yX6_covers yX6_covers ∈ AG := List.mem_filter.mpr ⟨Q0_2i (List.mem_of_getElem? (i := 5) rfl), rfl⟩
theorem q_38 : Cond.selects RX6 yX6_has yX6_has ∈ AG := List.mem_filter.mpr ⟨Q0_2i (List.mem_of_getElem? (i := 6) rfl), rfl⟩
theorem q_39 : Cond.selects RX6 yX6_to yX6_to ∈ AG := List.mem_filter.mpr ⟨Q0_2i (List.mem_of_getElem? (i := 7) rfl), rfl⟩
theorem q_40 : Cond.selects RX6 yX6_select yX6_select ∈ AG := List.mem_filter.mpr ⟨Q0_2i (List.mem_of_getElem? (i := 8) rfl), rfl⟩
theorem q_41 : Cond.selects RX6 yX6_surviving yX6_surviving ∈ AG := List.mem_filter.mpr ⟨Q0_2i (List.mem_of_getElem? (i := 9) rfl), rfl⟩
theorem q_42 : Cond.selects RX6 yX6_removes yX6_removes ∈ AG := List.mem_filter.mpr ⟨Q0_2i (List.mem_of_getElem? (i := 10) rfl), rfl⟩
theorem q_43 : Cond.selects RX6 yX6_spread yX6_spread ∈ AG := List.mem_filter.mpr ⟨Q0_2i (List.mem_of_getElem? (i := 11) rfl), rfl⟩
theorem q_44 : Cond.selects RX6 yX6_combined yX6_combined ∈ AG := List.mem_filter.mpr ⟨Q0_2i (List.mem_of_getElem? (i := 12) rfl), rfl⟩
theorem q_45 : Cond.selects RX6 yX6_leader yX6_leader ∈ AG := List.mem_filter.mpr ⟨Q0_2i (List.mem_of_getElem? (i := 13) rfl), rfl⟩
theorem q_46 : Cond.initialized RL ∈ AG := List.mem_filter.mpr ⟨Q1_0i (List.mem_of_getElem? (i := 0) rfl), rfl⟩
theorem q_47 : Cond.initialized RX5 ∈ AG := List.mem_filter.mpr ⟨Q1_0i (List.mem_of_getElem? (i := 1) rfl), rfl⟩
theorem q_48 : Cond.initialized RX1 ∈ AG := List.mem_filter.mpr ⟨Q1_0i (List.mem_of_getElem? (i := 2) rfl), rfl⟩
theorem q_49 : Cond.initialized RX0 ∈ AG := List.mem_filter.mpr ⟨Q1_0i (List.mem_of_getElem? (i := 3) rfl), rfl⟩
theorem q_50 : Cond.initialized RX3 ∈ AG := List.mem_filter.mpr ⟨Q1_0i (List.mem_of_getElem? (i := 4) rfl), rfl⟩
theorem q_51 : Cond.initialized RX2 ∈ AG := List.mem_filter.mpr ⟨Q1_0i (List.mem_of_getElem? (i := 5) rfl), rfl⟩
theorem q_52 : Cond.initialized RX4 ∈ AG := List.mem_filter.mpr ⟨Q1_0i (List.mem_of_getElem? (i := 6) rfl), rfl⟩
theorem q_53 : Cond.initialized RX6 ∈ AG := List.mem_filter.mpr ⟨Q1_0i (List.mem_of_getElem? (i := 7) rfl), rfl⟩
theorem q_54 : Cond.initialized "java/lang/Throwable" ∈ AG := List.mem_filter.mpr ⟨Q1_0i (List.mem_of_getElem? (i := 8) rfl), rfl⟩
theorem q_55 : Cond.initialized "java/lang/Exception" ∈ AG := List.mem_filter.mpr ⟨Q1_0i (List.mem_of_getElem? (i := 9) rfl), rfl⟩
theorem q_56 : Cond.initialized "java/lang/RuntimeException" ∈ AG := List.mem_filter.mpr ⟨Q1_0i (List.mem_of_getElem? (i := 10) rfl), rfl⟩
theorem q_57 : Cond.initialized "java/lang/IllegalArgumentException" ∈ AG := List.mem_filter.mpr ⟨Q1_0i (List.mem_of_getElem? (i := 11) rfl), rfl⟩
theorem q_58 : Cond.initialized "java/lang/IllegalStateException" ∈ AG := List.mem_filter.mpr ⟨Q1_0i (List.mem_of_getElem? (i := 12) rfl), rfl⟩
theorem q_59 : Cond.initialized RJ9 ∈ AG := List.mem_filter.mpr ⟨Q1_0i (List.mem_of_getElem? (i := 13) rfl), rfl⟩
theorem q_60 : Cond.initialized "java/lang/IndexOutOfBoundsException" ∈ AG := List.mem_filter.mpr ⟨Q1_0i (List.mem_of_getElem? (i := 14) rfl), rfl⟩
theorem q_61 : Cond.initialized RJ6 ∈ AG := List.mem_filter.mpr ⟨Q1_0i (List.mem_of_getElem? (i := 15) rfl), rfl⟩
theorem q_62 : Cond.classLink RL 8 RX5 ∈ AG := List.mem_filter.mpr ⟨Q1_1i (List.mem_of_getElem? (i := 0) rfl), rfl⟩
theorem q_63 : Cond.instantiable RX5 10 ∈ AG := List.mem_filter.mpr ⟨Q1_1i (List.mem_of_getElem? (i := 1) rfl), rfl⟩
theorem q_64 : Cond.methodLink RL 72 yX5_init ∈ AG := List.mem_filter.mpr ⟨Q1_1i (List.mem_of_getElem? (i := 2) rfl), rfl⟩
theorem q_65 : Cond.instanceMethod yX5_init ∈ AG := List.mem_filter.mpr ⟨Q1_1i (List.mem_of_getElem? (i := 3) rfl), rfl⟩
theorem q_66 : Cond.code yX5_init cX5_init 2 none ∈ AG := List.mem_filter.mpr ⟨Q1_1i (List.mem_of_getElem? (i := 4) rfl), rfl⟩
theorem q_67 : Cond.methodLink RX5 1 objectInit ∈ AG := List.mem_filter.mpr ⟨Q1_1i (List.mem_of_getElem? (i := 5) rfl), rfl⟩
theorem q_68 : Cond.instanceMethod objectInit ∈ AG := List.mem_filter.mpr ⟨Q1_1i (List.mem_of_getElem? (i := 6) rfl), rfl⟩
theorem q_69 : Cond.code objectInit ⟨#[0xb1]⟩ 1 none ∈ AG := List.mem_filter.mpr ⟨Q1_1i (List.mem_of_getElem? (i := 7) rfl), rfl⟩
theorem q_70 : Cond.classLink RX5 7 RX1 ∈ AG := List.mem_filter.mpr ⟨Q1_1i (List.mem_of_getElem? (i := 8) rfl), rfl⟩
theorem q_71 : Cond.instantiable RX1 4 ∈ AG := List.mem_filter.mpr ⟨Q1_1i (List.mem_of_getElem? (i := 9) rfl), rfl⟩
theorem q_73 : Cond.instanceMethod yX1_init ∈ AG := List.mem_filter.mpr ⟨Q1_1i (List.mem_of_getElem? (i := 11) rfl), rfl⟩
theorem q_74 : Cond.code yX1_init cX1_init 1 none ∈ AG := List.mem_filter.mpr ⟨Q1_1i (List.mem_of_getElem? (i := 12) rfl), rfl⟩
theorem q_75 : Cond.methodLink RX1 3 objectInit ∈ AG := List.mem_filter.mpr ⟨Q1_1i (List.mem_of_getElem? (i := 13) rfl), rfl⟩
theorem q_76 : Cond.fieldLink RX1 11 "Clockhouse$Oscillator" "picos" "J" ∈ AG := List.mem_filter.mpr ⟨Q1_1i (List.mem_of_getElem? (i := 14) rfl), rfl⟩
theorem q_77 : Cond.fieldLink RX1 17 "Clockhouse$Oscillator" "pendingPicos" "J" ∈ AG := List.mem_filter.mpr ⟨Q1_1i (List.mem_of_getElem? (i := 15) rfl), rfl⟩
theorem q_78 : Cond.fieldLink RX1 20 "Clockhouse$Oscillator" "driftRate" "I" ∈ AG := List.mem_filter.mpr ⟨Q1_2i (List.mem_of_getElem? (i := 0) rfl), rfl⟩
theorem q_79 : Cond.fieldLink RX1 24 "Clockhouse$Oscillator" "correctionRate" "I" ∈ AG := List.mem_filter.mpr ⟨Q1_2i (List.mem_of_getElem? (i := 1) rfl), rfl⟩
theorem q_89 : Cond.classLink RX5 16 RX0 ∈ AG := List.mem_filter.mpr ⟨Q1_2i (List.mem_of_getElem? (i := 11) rfl), rfl⟩
theorem q_90 : Cond.instantiable RX0 2 ∈ AG := List.mem_filter.mpr ⟨Q1_2i (List.mem_of_getElem? (i := 12) rfl), rfl⟩
theorem q_92 : Cond.instanceMethod yX0_init ∈ AG := List.mem_filter.mpr ⟨Q1_2i (List.mem_of_getElem? (i := 14) rfl), rfl⟩
theorem q_93 : Cond.code yX0_init cX0_init 1 none ∈ AG := List.mem_filter.mpr ⟨Q1_2i (List.mem_of_getElem? (i := 15) rfl), rfl⟩
theorem q_94 : Cond.methodLink RX0 1 objectInit ∈ AG := List.mem_filter.mpr ⟨Q1_3i (List.mem_of_getElem? (i := 0) rfl), rfl⟩
theorem q_95 : Cond.fieldLink RX0 13 "Clockhouse$LeapSeconds" "inserted" "I" ∈ AG := List.mem_filter.mpr ⟨Q1_3i (List.mem_of_getElem? (i := 1) rfl), rfl⟩
theorem q_96 : Cond.fieldLink RX0 17 "Clockhouse$LeapSeconds" "deleted" "I" ∈ AG := List.mem_filter.mpr ⟨Q1_3i (List.mem_of_getElem? (i := 2) rfl), rfl⟩
theorem q_102 : Cond.classLink RX5 23 RX4 ∈ AG := List.mem_filter.mpr ⟨Q1_3i (List.mem_of_getElem? (i := 8) rfl), rfl⟩
theorem q_104 : Cond.classLink RX5 29 RX3 ∈ AG := List.mem_filter.mpr ⟨Q1_3i (List.mem_of_getElem? (i := 10) rfl), rfl⟩
theorem q_105 : Cond.instantiable RX3 9 ∈ AG := List.mem_filter.mpr ⟨Q1_3i (List.mem_of_getElem? (i := 11) rfl), rfl⟩
theorem q_107 : Cond.instanceMethod yX3_init ∈ AG := List.mem_filter.mpr ⟨Q1_3i (List.mem_of_getElem? (i := 13) rfl), rfl⟩
theorem q_108 : Cond.code yX3_init cX3_init 1 none ∈ AG := List.mem_filter.mpr ⟨Q1_3i (List.mem_of_getElem? (i := 14) rfl), rfl⟩
theorem q_109 : Cond.methodLink RX3 3 objectInit ∈ AG := List.mem_filter.mpr ⟨Q1_3i (List.mem_of_getElem? (i := 15) rfl), rfl⟩
theorem q_110 : Cond.classLink RX3 9 RX2 ∈ AG := List.mem_filter.mpr ⟨Q1_4i (List.mem_of_getElem? (i := 0) rfl), rfl⟩
theorem q_111 : Cond.instantiable RX2 1 ∈ AG := List.mem_filter.mpr ⟨Q1_4i (List.mem_of_getElem? (i := 1) rfl), rfl⟩
theorem q_113 : Cond.instanceMethod yX2_init ∈ AG := List.mem_filter.mpr ⟨Q1_4i (List.mem_of_getElem? (i := 3) rfl), rfl⟩
theorem q_114 : Cond.code yX2_init cX2_init 1 none ∈ AG := List.mem_filter.mpr ⟨Q1_4i (List.mem_of_getElem? (i := 4) rfl), rfl⟩
theorem q_115 : Cond.methodLink RX2 1 objectInit ∈ AG := List.mem_filter.mpr ⟨Q1_4i (List.mem_of_getElem? (i := 5) rfl), rfl⟩
theorem q_116 : Cond.fieldLink RX2 9 "Clockhouse$Row" "cells" "[J" ∈ AG := List.mem_filter.mpr ⟨Q1_4i (List.mem_of_getElem? (i := 6) rfl), rfl⟩
theorem q_120 : Cond.arrayClass .long ∈ AG := List.mem_filter.mpr ⟨Q1_4i (List.mem_of_getElem? (i := 10) rfl), rfl⟩
theorem q_121 : Cond.fieldLink RX3 12 "Clockhouse$Selection" "offsets" "LClockhouse$Row;" ∈ AG := List.mem_filter.mpr ⟨Q1_4i (List.mem_of_getElem? (i := 11) rfl), rfl⟩
theorem q_122 : Cond.fieldLink RX3 18 "Clockhouse$Selection" "distances" "LClockhouse$Row;" ∈ AG := List.mem_filter.mpr ⟨Q1_4i (List.mem_of_getElem? (i := 12) rfl), rfl⟩
theorem q_123 : Cond.fieldLink RX3 21 "Clockhouse$Selection" "jitters" "LClockhouse$Row;" ∈ AG := List.mem_filter.mpr ⟨Q1_4i (List.mem_of_getElem? (i := 13) rfl), rfl⟩
theorem q_124 : Cond.fieldLink RX3 24 "Clockhouse$Selection" "strata" "LClockhouse$Row;" ∈ AG := List.mem_filter.mpr ⟨Q1_4i (List.mem_of_getElem? (i := 14) rfl), rfl⟩
theorem q_125 : Cond.fieldLink RX3 27 "Clockhouse$Selection" "candidateSet" "I" ∈ AG := List.mem_filter.mpr ⟨Q1_4i (List.mem_of_getElem? (i := 15) rfl), rfl⟩
theorem q_126 : Cond.fieldLink RX3 31 "Clockhouse$Selection" "agreeingSet" "I" ∈ AG := List.mem_filter.mpr ⟨Q1_5i (List.mem_of_getElem? (i := 0) rfl), rfl⟩
theorem q_127 : Cond.fieldLink RX3 34 "Clockhouse$Selection" "survivorSet" "I" ∈ AG := List.mem_filter.mpr ⟨Q1_5i (List.mem_of_getElem? (i := 1) rfl), rfl⟩
theorem q_128 : Cond.fieldLink RX3 37 "Clockhouse$Selection" "lowest" "J" ∈ AG := List.mem_filter.mpr ⟨Q1_5i (List.mem_of_getElem? (i := 2) rfl), rfl⟩
theorem q_129 : Cond.fieldLink RX3 41 "Clockhouse$Selection" "highest" "J" ∈ AG := List.mem_filter.mpr ⟨Q1_5i (List.mem_of_getElem? (i := 3) rfl), rfl⟩
theorem q_149 : Cond.instantiable RX4 9 ∈ AG := List.mem_filter.mpr ⟨Q1_6i (List.mem_of_getElem? (i := 7) rfl), rfl⟩
theorem q_151 : Cond.instanceMethod yX4_init ∈ AG := List.mem_filter.mpr ⟨Q1_6i (List.mem_of_getElem? (i := 9) rfl), rfl⟩
theorem q_152 : Cond.code yX4_init cX4_init 1 none ∈ AG := List.mem_filter.mpr ⟨Q1_6i (List.mem_of_getElem? (i := 10) rfl), rfl⟩
theorem q_153 : Cond.methodLink RX4 3 objectInit ∈ AG := List.mem_filter.mpr ⟨Q1_6i (List.mem_of_getElem? (i := 11) rfl), rfl⟩
theorem q_154 : Cond.classLink RX4 9 RX2 ∈ AG := List.mem_filter.mpr ⟨Q1_6i (List.mem_of_getElem? (i := 12) rfl), rfl⟩
theorem q_156 : Cond.fieldLink RX4 12 "Clockhouse$Server" "offsets" "LClockhouse$Row;" ∈ AG := List.mem_filter.mpr ⟨Q1_6i (List.mem_of_getElem? (i := 14) rfl), rfl⟩
theorem q_157 : Cond.fieldLink RX4 18 "Clockhouse$Server" "delays" "LClockhouse$Row;" ∈ AG := List.mem_filter.mpr ⟨Q1_6i (List.mem_of_getElem? (i := 15) rfl), rfl⟩
theorem q_158 : Cond.fieldLink RX4 21 "Clockhouse$Server" "times" "LClockhouse$Row;" ∈ AG := List.mem_filter.mpr ⟨Q1_7i (List.mem_of_getElem? (i := 0) rfl), rfl⟩
theorem q_159 : Cond.fieldLink RX4 41 "Clockhouse$Server" "count" "I" ∈ AG := List.mem_filter.mpr ⟨Q1_7i (List.mem_of_getElem? (i := 1) rfl), rfl⟩
theorem q_160 : Cond.fieldLink RX4 44 "Clockhouse$Server" "best" "I" ∈ AG := List.mem_filter.mpr ⟨Q1_7i (List.mem_of_getElem? (i := 2) rfl), rfl⟩
theorem q_161 : Cond.fieldLink RX4 24 "Clockhouse$Server" "level" "I" ∈ AG := List.mem_filter.mpr ⟨Q1_7i (List.mem_of_getElem? (i := 3) rfl), rfl⟩
theorem q_162 : Cond.fieldLink RX4 28 "Clockhouse$Server" "clockError" "I" ∈ AG := List.mem_filter.mpr ⟨Q1_7i (List.mem_of_getElem? (i := 4) rfl), rfl⟩
theorem q_163 : Cond.fieldLink RX4 31 "Clockhouse$Server" "rootDelay" "J" ∈ AG := List.mem_filter.mpr ⟨Q1_7i (List.mem_of_getElem? (i := 5) rfl), rfl⟩
theorem q_164 : Cond.fieldLink RX4 35 "Clockhouse$Server" "rootDispersion" "J" ∈ AG := List.mem_filter.mpr ⟨Q1_7i (List.mem_of_getElem? (i := 6) rfl), rfl⟩
theorem q_184 : Cond.methodLink RX5 37 yX5_begin ∈ AG := List.mem_filter.mpr ⟨Q1_8i (List.mem_of_getElem? (i := 10) rfl), rfl⟩
theorem q_186 : Cond.instanceMethod yX5_begin ∈ AG := List.mem_filter.mpr ⟨Q1_8i (List.mem_of_getElem? (i := 12) rfl), rfl⟩
theorem q_187 : Cond.code yX5_begin cX5_begin 2 none ∈ AG := List.mem_filter.mpr ⟨Q1_8i (List.mem_of_getElem? (i := 13) rfl), rfl⟩
theorem q_188 : Cond.methodLink RX5 199 yX1_begin ∈ AG := List.mem_filter.mpr ⟨Q1_8i (List.mem_of_getElem? (i := 14) rfl), rfl⟩
theorem q_189 : Cond.instanceMethod yX1_begin ∈ AG := List.mem_filter.mpr ⟨Q1_8i (List.mem_of_getElem? (i := 15) rfl), rfl⟩
theorem q_190 : Cond.selects RX1 yX1_begin yX1_begin ∈ AG := List.mem_filter.mpr ⟨Q1_9i (List.mem_of_getElem? (i := 0) rfl), rfl⟩
theorem q_191 : Cond.code yX1_begin cX1_begin 2 none ∈ AG := List.mem_filter.mpr ⟨Q1_9i (List.mem_of_getElem? (i := 1) rfl), rfl⟩
theorem q_192 : Cond.constantLong RX1 9 (1000000) ∈ AG := List.mem_filter.mpr ⟨Q1_9i (List.mem_of_getElem? (i := 2) rfl), rfl⟩
theorem q_193 : Cond.methodLink RX5 200 yX0_clear ∈ AG := List.mem_filter.mpr ⟨Q1_9i (List.mem_of_getElem? (i := 3) rfl), rfl⟩
theorem q_194 : Cond.instanceMethod yX0_clear ∈ AG := List.mem_filter.mpr ⟨Q1_9i (List.mem_of_getElem? (i := 4) rfl), rfl⟩
theorem q_195 : Cond.selects RX0 yX0_clear yX0_clear ∈ AG := List.mem_filter.mpr ⟨Q1_9i (List.mem_of_getElem? (i := 5) rfl), rfl⟩
theorem q_196 : Cond.code yX0_clear cX0_clear 1 none ∈ AG := List.mem_filter.mpr ⟨Q1_9i (List.mem_of_getElem? (i := 6) rfl), rfl⟩
theorem q_197 : Cond.fieldLink RX5 10 "Clockhouse" "oscillator" "LClockhouse$Oscillator;" ∈ AG := List.mem_filter.mpr ⟨Q1_9i (List.mem_of_getElem? (i := 7) rfl), rfl⟩
theorem q_198 : Cond.fieldLink RX5 19 "Clockhouse" "leapSeconds" "LClockhouse$LeapSeconds;" ∈ AG := List.mem_filter.mpr ⟨Q1_9i (List.mem_of_getElem? (i := 8) rfl), rfl⟩
theorem q_199 : Cond.fieldLink RX5 25 "Clockhouse" "rooms" "[LClockhouse$Server;" ∈ AG := List.mem_filter.mpr ⟨Q1_9i (List.mem_of_getElem? (i := 9) rfl), rfl⟩
theorem q_200 : Cond.fieldLink RX5 32 "Clockhouse" "selection" "LClockhouse$Selection;" ∈ AG := List.mem_filter.mpr ⟨Q1_9i (List.mem_of_getElem? (i := 10) rfl), rfl⟩
theorem q_201 : Cond.fieldLink RX5 99 "Clockhouse" "serverCount" "I" ∈ AG := List.mem_filter.mpr ⟨Q1_9i (List.mem_of_getElem? (i := 11) rfl), rfl⟩
theorem q_202 : Cond.fieldLink RX5 68 "Clockhouse" "truth" "J" ∈ AG := List.mem_filter.mpr ⟨Q1_9i (List.mem_of_getElem? (i := 12) rfl), rfl⟩
theorem q_203 : Cond.fieldLink RX5 192 "Clockhouse" "clientStratum" "I" ∈ AG := List.mem_filter.mpr ⟨Q1_9i (List.mem_of_getElem? (i := 13) rfl), rfl⟩
theorem q_204 : Cond.fieldLink RX5 195 "Clockhouse" "stepCount" "I" ∈ AG := List.mem_filter.mpr ⟨Q1_9i (List.mem_of_getElem? (i := 14) rfl), rfl⟩
theorem q_205 : Cond.fieldLink RX5 189 "Clockhouse" "synchronizationCount" "I" ∈ AG := List.mem_filter.mpr ⟨Q1_9i (List.mem_of_getElem? (i := 15) rfl), rfl⟩
theorem q_206 : Cond.fieldLink RX5 186 "Clockhouse" "readingBehindSynchronization" "J" ∈ AG := List.mem_filter.mpr ⟨Q1_10i (List.mem_of_getElem? (i := 0) rfl), rfl⟩
theorem q_228 : Cond.methodLink RL 89 yX5_trueTime ∈ AG := List.mem_filter.mpr ⟨Q1_11i (List.mem_of_getElem? (i := 6) rfl), rfl⟩
theorem q_229 : Cond.instanceMethod yX5_trueTime ∈ AG := List.mem_filter.mpr ⟨Q1_11i (List.mem_of_getElem? (i := 7) rfl), rfl⟩
theorem q_230 : Cond.selects RX5 yX5_trueTime yX5_trueTime ∈ AG := List.mem_filter.mpr ⟨Q1_11i (List.mem_of_getElem? (i := 8) rfl), rfl⟩
theorem q_231 : Cond.code yX5_trueTime cX5_trueTime 1 (some .long) ∈ AG := List.mem_filter.mpr ⟨Q1_11i (List.mem_of_getElem? (i := 9) rfl), rfl⟩
theorem q_232 : Cond.methodLink RL 93 yX5_clock ∈ AG := List.mem_filter.mpr ⟨Q1_11i (List.mem_of_getElem? (i := 10) rfl), rfl⟩
theorem q_233 : Cond.instanceMethod yX5_clock ∈ AG := List.mem_filter.mpr ⟨Q1_11i (List.mem_of_getElem? (i := 11) rfl), rfl⟩
theorem q_234 : Cond.selects RX5 yX5_clock yX5_clock ∈ AG := List.mem_filter.mpr ⟨Q1_11i (List.mem_of_getElem? (i := 12) rfl), rfl⟩
theorem q_235 : Cond.code yX5_clock cX5_clock 1 (some .long) ∈ AG := List.mem_filter.mpr ⟨Q1_11i (List.mem_of_getElem? (i := 13) rfl), rfl⟩
theorem q_236 : Cond.methodLink RX5 60 yX1_reading ∈ AG := List.mem_filter.mpr ⟨Q1_11i (List.mem_of_getElem? (i := 14) rfl), rfl⟩
theorem q_237 : Cond.instanceMethod yX1_reading ∈ AG := List.mem_filter.mpr ⟨Q1_11i (List.mem_of_getElem? (i := 15) rfl), rfl⟩
theorem q_238 : Cond.selects RX1 yX1_reading yX1_reading ∈ AG := List.mem_filter.mpr ⟨Q1_12i (List.mem_of_getElem? (i := 0) rfl), rfl⟩
theorem q_239 : Cond.code yX1_reading cX1_reading 1 (some .long) ∈ AG := List.mem_filter.mpr ⟨Q1_12i (List.mem_of_getElem? (i := 1) rfl), rfl⟩
theorem q_240 : Cond.methodLink RX1 27 yJ9_floorDiv_f86c9 ∈ AG := List.mem_filter.mpr ⟨Q1_12i (List.mem_of_getElem? (i := 2) rfl), rfl⟩
theorem q_241 : Cond.static yJ9_floorDiv_f86c9 ∈ AG := List.mem_filter.mpr ⟨Q1_12i (List.mem_of_getElem? (i := 3) rfl), rfl⟩
theorem q_242 : Cond.code yJ9_floorDiv_f86c9 cJ9_floorDiv_f86c9 6 (some .long) ∈ AG := List.mem_filter.mpr ⟨Q1_12i (List.mem_of_getElem? (i := 4) rfl), rfl⟩
theorem q_243 : Cond.methodLink RL 97 yX5_error ∈ AG := List.mem_filter.mpr ⟨Q1_12i (List.mem_of_getElem? (i := 5) rfl), rfl⟩
theorem q_244 : Cond.instanceMethod yX5_error ∈ AG := List.mem_filter.mpr ⟨Q1_12i (List.mem_of_getElem? (i := 6) rfl), rfl⟩
theorem q_245 : Cond.selects RX5 yX5_error yX5_error ∈ AG := List.mem_filter.mpr ⟨Q1_12i (List.mem_of_getElem? (i := 7) rfl), rfl⟩
theorem q_246 : Cond.code yX5_error cX5_error 1 (some .long) ∈ AG := List.mem_filter.mpr ⟨Q1_12i (List.mem_of_getElem? (i := 8) rfl), rfl⟩
theorem q_247 : Cond.methodLink RL 101 yX5_pendingSlew ∈ AG := List.mem_filter.mpr ⟨Q1_12i (List.mem_of_getElem? (i := 9) rfl), rfl⟩
theorem q_248 : Cond.instanceMethod yX5_pendingSlew ∈ AG := List.mem_filter.mpr ⟨Q1_12i (List.mem_of_getElem? (i := 10) rfl), rfl⟩
theorem q_249 : Cond.selects RX5 yX5_pendingSlew yX5_pendingSlew ∈ AG := List.mem_filter.mpr ⟨Q1_12i (List.mem_of_getElem? (i := 11) rfl), rfl⟩
theorem q_250 : Cond.code yX5_pendingSlew cX5_pendingSlew 1 (some .long) ∈ AG := List.mem_filter.mpr ⟨Q1_12i (List.mem_of_getElem? (i := 12) rfl), rfl⟩
theorem q_251 : Cond.methodLink RX5 72 yX1_pendingMicros ∈ AG := List.mem_filter.mpr ⟨Q1_12i (List.mem_of_getElem? (i := 13) rfl), rfl⟩
theorem q_252 : Cond.instanceMethod yX1_pendingMicros ∈ AG := List.mem_filter.mpr ⟨Q1_12i (List.mem_of_getElem? (i := 14) rfl), rfl⟩
theorem q_253 : Cond.selects RX1 yX1_pendingMicros yX1_pendingMicros ∈ AG := List.mem_filter.mpr ⟨Q1_12i (List.mem_of_getElem? (i := 15) rfl), rfl⟩
theorem q_254 : Cond.code yX1_pendingMicros cX1_pendingMicros 1 (some .long) ∈ AG := List.mem_filter.mpr ⟨Q1_13i (List.mem_of_getElem? (i := 0) rfl), rfl⟩
theorem q_255 : Cond.methodLink RL 105 yX5_correction ∈ AG := List.mem_filter.mpr ⟨Q1_13i (List.mem_of_getElem? (i := 1) rfl), rfl⟩
theorem q_256 : Cond.instanceMethod yX5_correction ∈ AG := List.mem_filter.mpr ⟨Q1_13i (List.mem_of_getElem? (i := 2) rfl), rfl⟩
theorem q_257 : Cond.selects RX5 yX5_correction yX5_correction ∈ AG := List.mem_filter.mpr ⟨Q1_13i (List.mem_of_getElem? (i := 3) rfl), rfl⟩
theorem q_258 : Cond.code yX5_correction cX5_correction 1 (some .int) ∈ AG := List.mem_filter.mpr ⟨Q1_13i (List.mem_of_getElem? (i := 4) rfl), rfl⟩
theorem q_259 : Cond.methodLink RX5 75 yX1_presentCorrection ∈ AG := List.mem_filter.mpr ⟨Q1_13i (List.mem_of_getElem? (i := 5) rfl), rfl⟩
theorem q_260 : Cond.instanceMethod yX1_presentCorrection ∈ AG := List.mem_filter.mpr ⟨Q1_13i (List.mem_of_getElem? (i := 6) rfl), rfl⟩
theorem q_261 : Cond.selects RX1 yX1_presentCorrection yX1_presentCorrection ∈ AG := List.mem_filter.mpr ⟨Q1_13i (List.mem_of_getElem? (i := 7) rfl), rfl⟩
theorem q_262 : Cond.code yX1_presentCorrection cX1_presentCorrection 1 (some .int) ∈ AG := List.mem_filter.mpr ⟨Q1_13i (List.mem_of_getElem? (i := 8) rfl), rfl⟩
theorem q_263 : Cond.methodLink RL 113 yX5_civil ∈ AG := List.mem_filter.mpr ⟨Q1_13i (List.mem_of_getElem? (i := 9) rfl), rfl⟩
theorem q_264 : Cond.instanceMethod yX5_civil ∈ AG := List.mem_filter.mpr ⟨Q1_13i (List.mem_of_getElem? (i := 10) rfl), rfl⟩
theorem q_265 : Cond.selects RX5 yX5_civil yX5_civil ∈ AG := List.mem_filter.mpr ⟨Q1_13i (List.mem_of_getElem? (i := 11) rfl), rfl⟩
theorem q_266 : Cond.code yX5_civil cX5_civil 1 (some .long) ∈ AG := List.mem_filter.mpr ⟨Q1_13i (List.mem_of_getElem? (i := 12) rfl), rfl⟩
theorem q_267 : Cond.methodLink RX5 91 yX0_civilTime ∈ AG := List.mem_filter.mpr ⟨Q1_13i (List.mem_of_getElem? (i := 13) rfl), rfl⟩
theorem q_268 : Cond.instanceMethod yX0_civilTime ∈ AG := List.mem_filter.mpr ⟨Q1_13i (List.mem_of_getElem? (i := 14) rfl), rfl⟩
theorem q_269 : Cond.selects RX0 yX0_civilTime yX0_civilTime ∈ AG := List.mem_filter.mpr ⟨Q1_13i (List.mem_of_getElem? (i := 15) rfl), rfl⟩
theorem q_270 : Cond.code yX0_civilTime cX0_civilTime 6 (some .long) ∈ AG := List.mem_filter.mpr ⟨Q1_14i (List.mem_of_getElem? (i := 0) rfl), rfl⟩
theorem q_271 : Cond.methodLink RX0 20 yX0_contains ∈ AG := List.mem_filter.mpr ⟨Q1_14i (List.mem_of_getElem? (i := 1) rfl), rfl⟩
theorem q_272 : Cond.static yX0_contains ∈ AG := List.mem_filter.mpr ⟨Q1_14i (List.mem_of_getElem? (i := 2) rfl), rfl⟩
theorem q_273 : Cond.code yX0_contains cX0_contains 2 (some .boolean) ∈ AG := List.mem_filter.mpr ⟨Q1_14i (List.mem_of_getElem? (i := 3) rfl), rfl⟩
theorem q_274 : Cond.methodLink RX0 24 yX0_partCome ∈ AG := List.mem_filter.mpr ⟨Q1_14i (List.mem_of_getElem? (i := 4) rfl), rfl⟩
theorem q_275 : Cond.static yX0_partCome ∈ AG := List.mem_filter.mpr ⟨Q1_14i (List.mem_of_getElem? (i := 5) rfl), rfl⟩
theorem q_276 : Cond.code yX0_partCome cX0_partCome 5 (some .long) ∈ AG := List.mem_filter.mpr ⟨Q1_14i (List.mem_of_getElem? (i := 6) rfl), rfl⟩
theorem q_277 : Cond.methodLink RX0 28 yX0_smearBeginning ∈ AG := List.mem_filter.mpr ⟨Q1_14i (List.mem_of_getElem? (i := 7) rfl), rfl⟩
theorem q_278 : Cond.static yX0_smearBeginning ∈ AG := List.mem_filter.mpr ⟨Q1_14i (List.mem_of_getElem? (i := 8) rfl), rfl⟩
theorem q_279 : Cond.code yX0_smearBeginning cX0_smearBeginning 1 (some .long) ∈ AG := List.mem_filter.mpr ⟨Q1_14i (List.mem_of_getElem? (i := 9) rfl), rfl⟩
theorem q_280 : Cond.constantLong RX0 9 (86400000000) ∈ AG := List.mem_filter.mpr ⟨Q1_14i (List.mem_of_getElem? (i := 10) rfl), rfl⟩
theorem q_281 : Cond.constantLong RX0 11 (20000000000) ∈ AG := List.mem_filter.mpr ⟨Q1_14i (List.mem_of_getElem? (i := 11) rfl), rfl⟩
theorem q_282 : Cond.constantLong RX0 32 (20000) ∈ AG := List.mem_filter.mpr ⟨Q1_14i (List.mem_of_getElem? (i := 12) rfl), rfl⟩
theorem q_283 : Cond.constantLong RX0 34 (1000000) ∈ AG := List.mem_filter.mpr ⟨Q1_14i (List.mem_of_getElem? (i := 13) rfl), rfl⟩
theorem q_284 : Cond.methodLink RL 128 yX5_servers ∈ AG := List.mem_filter.mpr ⟨Q1_14i (List.mem_of_getElem? (i := 14) rfl), rfl⟩
theorem q_285 : Cond.instanceMethod yX5_servers ∈ AG := List.mem_filter.mpr ⟨Q1_14i (List.mem_of_getElem? (i := 15) rfl), rfl⟩
theorem q_286 : Cond.selects RX5 yX5_servers yX5_servers ∈ AG := List.mem_filter.mpr ⟨Q2_0i (List.mem_of_getElem? (i := 0) rfl), rfl⟩
theorem q_287 : Cond.code yX5_servers cX5_servers 1 (some .int) ∈ AG := List.mem_filter.mpr ⟨Q2_0i (List.mem_of_getElem? (i := 1) rfl), rfl⟩
theorem q_288 : Cond.methodLink RL 147 yX5_agreement ∈ AG := List.mem_filter.mpr ⟨Q2_0i (List.mem_of_getElem? (i := 2) rfl), rfl⟩
theorem q_289 : Cond.instanceMethod yX5_agreement ∈ AG := List.mem_filter.mpr ⟨Q2_0i (List.mem_of_getElem? (i := 3) rfl), rfl⟩
theorem q_290 : Cond.selects RX5 yX5_agreement yX5_agreement ∈ AG := List.mem_filter.mpr ⟨Q2_0i (List.mem_of_getElem? (i := 4) rfl), rfl⟩
theorem q_291 : Cond.code yX5_agreement cX5_agreement 1 (some .int) ∈ AG := List.mem_filter.mpr ⟨Q2_0i (List.mem_of_getElem? (i := 5) rfl), rfl⟩
theorem q_292 : Cond.methodLink RX5 141 yX5_select ∈ AG := List.mem_filter.mpr ⟨Q2_0i (List.mem_of_getElem? (i := 6) rfl), rfl⟩
theorem q_294 : Cond.instanceMethod yX5_select ∈ AG := List.mem_filter.mpr ⟨Q2_0i (List.mem_of_getElem? (i := 8) rfl), rfl⟩
theorem q_295 : Cond.code yX5_select cX5_select 5 none ∈ AG := List.mem_filter.mpr ⟨Q2_0i (List.mem_of_getElem? (i := 9) rfl), rfl⟩
theorem q_296 : Cond.methodLink RX5 230 yX3_clear ∈ AG := List.mem_filter.mpr ⟨Q2_0i (List.mem_of_getElem? (i := 10) rfl), rfl⟩
theorem q_297 : Cond.instanceMethod yX3_clear ∈ AG := List.mem_filter.mpr ⟨Q2_0i (List.mem_of_getElem? (i := 11) rfl), rfl⟩
theorem q_298 : Cond.selects RX3 yX3_clear yX3_clear ∈ AG := List.mem_filter.mpr ⟨Q2_0i (List.mem_of_getElem? (i := 12) rfl), rfl⟩
theorem q_299 : Cond.code yX3_clear cX3_clear 1 none ∈ AG := List.mem_filter.mpr ⟨Q2_0i (List.mem_of_getElem? (i := 13) rfl), rfl⟩
theorem q_300 : Cond.methodLink RX5 206 yX5_serverOrNull ∈ AG := List.mem_filter.mpr ⟨Q2_0i (List.mem_of_getElem? (i := 14) rfl), rfl⟩
theorem q_302 : Cond.instanceMethod yX5_serverOrNull ∈ AG := List.mem_filter.mpr ⟨Q2_1i (List.mem_of_getElem? (i := 0) rfl), rfl⟩
theorem q_303 : Cond.code yX5_serverOrNull cX5_serverOrNull 2 (some (.object "Clockhouse$Server")) ∈ AG := List.mem_filter.mpr ⟨Q2_1i (List.mem_of_getElem? (i := 1) rfl), rfl⟩
theorem q_304 : Cond.methodLink RX5 103 yX5_roomOrNull ∈ AG := List.mem_filter.mpr ⟨Q2_1i (List.mem_of_getElem? (i := 2) rfl), rfl⟩
theorem q_306 : Cond.instanceMethod yX5_roomOrNull ∈ AG := List.mem_filter.mpr ⟨Q2_1i (List.mem_of_getElem? (i := 4) rfl), rfl⟩
theorem q_307 : Cond.code yX5_roomOrNull cX5_roomOrNull 2 (some (.object "Clockhouse$Server")) ∈ AG := List.mem_filter.mpr ⟨Q2_1i (List.mem_of_getElem? (i := 5) rfl), rfl⟩
theorem q_308 : Cond.methodLink RX5 123 yX4_kept ∈ AG := List.mem_filter.mpr ⟨Q2_1i (List.mem_of_getElem? (i := 6) rfl), rfl⟩
theorem q_309 : Cond.instanceMethod yX4_kept ∈ AG := List.mem_filter.mpr ⟨Q2_1i (List.mem_of_getElem? (i := 7) rfl), rfl⟩
theorem q_310 : Cond.selects RX4 yX4_kept yX4_kept ∈ AG := List.mem_filter.mpr ⟨Q2_1i (List.mem_of_getElem? (i := 8) rfl), rfl⟩
theorem q_311 : Cond.code yX4_kept cX4_kept 1 (some .int) ∈ AG := List.mem_filter.mpr ⟨Q2_1i (List.mem_of_getElem? (i := 9) rfl), rfl⟩
theorem q_312 : Cond.methodLink RX5 231 yX3_enter ∈ AG := List.mem_filter.mpr ⟨Q2_1i (List.mem_of_getElem? (i := 10) rfl), rfl⟩
theorem q_313 : Cond.instanceMethod yX3_enter ∈ AG := List.mem_filter.mpr ⟨Q2_1i (List.mem_of_getElem? (i := 11) rfl), rfl⟩
theorem q_314 : Cond.selects RX3 yX3_enter yX3_enter ∈ AG := List.mem_filter.mpr ⟨Q2_1i (List.mem_of_getElem? (i := 12) rfl), rfl⟩
theorem q_315 : Cond.code yX3_enter cX3_enter 5 none ∈ AG := List.mem_filter.mpr ⟨Q2_1i (List.mem_of_getElem? (i := 13) rfl), rfl⟩
theorem q_316 : Cond.methodLink RX3 44 yX4_bestOffset ∈ AG := List.mem_filter.mpr ⟨Q2_1i (List.mem_of_getElem? (i := 14) rfl), rfl⟩
theorem q_317 : Cond.instanceMethod yX4_bestOffset ∈ AG := List.mem_filter.mpr ⟨Q2_1i (List.mem_of_getElem? (i := 15) rfl), rfl⟩
theorem q_318 : Cond.selects RX4 yX4_bestOffset yX4_bestOffset ∈ AG := List.mem_filter.mpr ⟨Q2_2i (List.mem_of_getElem? (i := 0) rfl), rfl⟩
theorem q_319 : Cond.code yX4_bestOffset cX4_bestOffset 1 (some .long) ∈ AG := List.mem_filter.mpr ⟨Q2_2i (List.mem_of_getElem? (i := 1) rfl), rfl⟩
theorem q_320 : Cond.methodLink RX4 61 yX2_get ∈ AG := List.mem_filter.mpr ⟨Q2_2i (List.mem_of_getElem? (i := 2) rfl), rfl⟩
theorem q_321 : Cond.instanceMethod yX2_get ∈ AG := List.mem_filter.mpr ⟨Q2_2i (List.mem_of_getElem? (i := 3) rfl), rfl⟩
theorem q_322 : Cond.selects RX2 yX2_get yX2_get ∈ AG := List.mem_filter.mpr ⟨Q2_2i (List.mem_of_getElem? (i := 4) rfl), rfl⟩
theorem q_323 : Cond.code yX2_get cX2_get 2 (some .long) ∈ AG := List.mem_filter.mpr ⟨Q2_2i (List.mem_of_getElem? (i := 5) rfl), rfl⟩
theorem q_324 : Cond.methodLink RX3 50 yX2_put ∈ AG := List.mem_filter.mpr ⟨Q2_2i (List.mem_of_getElem? (i := 6) rfl), rfl⟩
theorem q_325 : Cond.instanceMethod yX2_put ∈ AG := List.mem_filter.mpr ⟨Q2_2i (List.mem_of_getElem? (i := 7) rfl), rfl⟩
theorem q_326 : Cond.selects RX2 yX2_put yX2_put ∈ AG := List.mem_filter.mpr ⟨Q2_2i (List.mem_of_getElem? (i := 8) rfl), rfl⟩
theorem q_327 : Cond.code yX2_put cX2_put 4 none ∈ AG := List.mem_filter.mpr ⟨Q2_2i (List.mem_of_getElem? (i := 9) rfl), rfl⟩
theorem q_328 : Cond.methodLink RX3 54 yX4_distanceAt ∈ AG := List.mem_filter.mpr ⟨Q2_2i (List.mem_of_getElem? (i := 10) rfl), rfl⟩
theorem q_329 : Cond.instanceMethod yX4_distanceAt ∈ AG := List.mem_filter.mpr ⟨Q2_2i (List.mem_of_getElem? (i := 11) rfl), rfl⟩
theorem q_330 : Cond.selects RX4 yX4_distanceAt yX4_distanceAt ∈ AG := List.mem_filter.mpr ⟨Q2_2i (List.mem_of_getElem? (i := 12) rfl), rfl⟩
theorem q_331 : Cond.code yX4_distanceAt cX4_distanceAt 5 (some .long) ∈ AG := List.mem_filter.mpr ⟨Q2_2i (List.mem_of_getElem? (i := 13) rfl), rfl⟩
theorem q_332 : Cond.constantLong RX4 69 (2) ∈ AG := List.mem_filter.mpr ⟨Q2_2i (List.mem_of_getElem? (i := 14) rfl), rfl⟩
theorem q_333 : Cond.methodLink RX4 71 yX4_bestDelay ∈ AG := List.mem_filter.mpr ⟨Q2_2i (List.mem_of_getElem? (i := 15) rfl), rfl⟩
theorem q_334 : Cond.instanceMethod yX4_bestDelay ∈ AG := List.mem_filter.mpr ⟨Q2_3i (List.mem_of_getElem? (i := 0) rfl), rfl⟩
theorem q_335 : Cond.selects RX4 yX4_bestDelay yX4_bestDelay ∈ AG := List.mem_filter.mpr ⟨Q2_3i (List.mem_of_getElem? (i := 1) rfl), rfl⟩
theorem q_336 : Cond.code yX4_bestDelay cX4_bestDelay 1 (some .long) ∈ AG := List.mem_filter.mpr ⟨Q2_3i (List.mem_of_getElem? (i := 2) rfl), rfl⟩
theorem q_337 : Cond.methodLink RX4 75 yX4_offsetJitter ∈ AG := List.mem_filter.mpr ⟨Q2_3i (List.mem_of_getElem? (i := 3) rfl), rfl⟩
theorem q_338 : Cond.instanceMethod yX4_offsetJitter ∈ AG := List.mem_filter.mpr ⟨Q2_3i (List.mem_of_getElem? (i := 4) rfl), rfl⟩
theorem q_339 : Cond.selects RX4 yX4_offsetJitter yX4_offsetJitter ∈ AG := List.mem_filter.mpr ⟨Q2_3i (List.mem_of_getElem? (i := 5) rfl), rfl⟩
theorem q_340 : Cond.code yX4_offsetJitter cX4_offsetJitter 6 (some .long) ∈ AG := List.mem_filter.mpr ⟨Q2_3i (List.mem_of_getElem? (i := 6) rfl), rfl⟩
theorem q_341 : Cond.methodLink RX4 65 Lib.MathLoose.abs_long.x ∈ AG := List.mem_filter.mpr ⟨Q2_3i (List.mem_of_getElem? (i := 7) rfl), rfl⟩
theorem q_342 : Cond.static Lib.MathLoose.abs_long.x ∈ AG := List.mem_filter.mpr ⟨Q2_3i (List.mem_of_getElem? (i := 8) rfl), rfl⟩
theorem q_343 : Cond.code Lib.MathLoose.abs_long.x Lib.MathLoose.abs_long.code 2 (some .long) ∈ AG := List.mem_filter.mpr ⟨Q2_3i (List.mem_of_getElem? (i := 9) rfl), rfl⟩
theorem q_344 : Cond.constantLong RX4 78 (15) ∈ AG := List.mem_filter.mpr ⟨Q2_3i (List.mem_of_getElem? (i := 10) rfl), rfl⟩
theorem q_345 : Cond.constantLong RX4 80 (1000000) ∈ AG := List.mem_filter.mpr ⟨Q2_3i (List.mem_of_getElem? (i := 11) rfl), rfl⟩
theorem q_346 : Cond.methodLink RX4 82 yJ9_floorDiv_f86c9 ∈ AG := List.mem_filter.mpr ⟨Q2_3i (List.mem_of_getElem? (i := 12) rfl), rfl⟩
theorem q_347 : Cond.methodLink RX3 58 yX4_offsetJitter ∈ AG := List.mem_filter.mpr ⟨Q2_3i (List.mem_of_getElem? (i := 13) rfl), rfl⟩
theorem q_348 : Cond.methodLink RX3 61 yX4_ownStratum ∈ AG := List.mem_filter.mpr ⟨Q2_3i (List.mem_of_getElem? (i := 14) rfl), rfl⟩
theorem q_349 : Cond.instanceMethod yX4_ownStratum ∈ AG := List.mem_filter.mpr ⟨Q2_3i (List.mem_of_getElem? (i := 15) rfl), rfl⟩
theorem q_350 : Cond.selects RX4 yX4_ownStratum yX4_ownStratum ∈ AG := List.mem_filter.mpr ⟨Q2_4i (List.mem_of_getElem? (i := 0) rfl), rfl⟩
theorem q_351 : Cond.code yX4_ownStratum cX4_ownStratum 1 (some .int) ∈ AG := List.mem_filter.mpr ⟨Q2_4i (List.mem_of_getElem? (i := 1) rfl), rfl⟩
theorem q_352 : Cond.methodLink RX5 235 yX3_intersect ∈ AG := List.mem_filter.mpr ⟨Q2_4i (List.mem_of_getElem? (i := 2) rfl), rfl⟩
theorem q_353 : Cond.instanceMethod yX3_intersect ∈ AG := List.mem_filter.mpr ⟨Q2_4i (List.mem_of_getElem? (i := 3) rfl), rfl⟩
theorem q_354 : Cond.selects RX3 yX3_intersect yX3_intersect ∈ AG := List.mem_filter.mpr ⟨Q2_4i (List.mem_of_getElem? (i := 4) rfl), rfl⟩
theorem q_355 : Cond.code yX3_intersect cX3_intersect 2 none ∈ AG := List.mem_filter.mpr ⟨Q2_4i (List.mem_of_getElem? (i := 5) rfl), rfl⟩
theorem q_356 : Cond.methodLink RX3 74 yX3_contains ∈ AG := List.mem_filter.mpr ⟨Q2_4i (List.mem_of_getElem? (i := 6) rfl), rfl⟩
theorem q_357 : Cond.static yX3_contains ∈ AG := List.mem_filter.mpr ⟨Q2_4i (List.mem_of_getElem? (i := 7) rfl), rfl⟩
theorem q_358 : Cond.code yX3_contains cX3_contains 2 (some .boolean) ∈ AG := List.mem_filter.mpr ⟨Q2_4i (List.mem_of_getElem? (i := 8) rfl), rfl⟩
theorem q_359 : Cond.methodLink RX3 78 yX2_get ∈ AG := List.mem_filter.mpr ⟨Q2_4i (List.mem_of_getElem? (i := 9) rfl), rfl⟩
theorem q_360 : Cond.methodLink RX3 82 yX3_tryLowEnd ∈ AG := List.mem_filter.mpr ⟨Q2_4i (List.mem_of_getElem? (i := 10) rfl), rfl⟩
theorem q_362 : Cond.instanceMethod yX3_tryLowEnd ∈ AG := List.mem_filter.mpr ⟨Q2_4i (List.mem_of_getElem? (i := 12) rfl), rfl⟩
theorem q_363 : Cond.code yX3_tryLowEnd cX3_tryLowEnd 5 none ∈ AG := List.mem_filter.mpr ⟨Q2_4i (List.mem_of_getElem? (i := 13) rfl), rfl⟩
theorem q_364 : Cond.methodLink RX3 89 yX3_intervalsWith ∈ AG := List.mem_filter.mpr ⟨Q2_4i (List.mem_of_getElem? (i := 14) rfl), rfl⟩
theorem q_366 : Cond.instanceMethod yX3_intervalsWith ∈ AG := List.mem_filter.mpr ⟨Q2_5i (List.mem_of_getElem? (i := 0) rfl), rfl⟩
theorem q_367 : Cond.code yX3_intervalsWith cX3_intervalsWith 5 (some .int) ∈ AG := List.mem_filter.mpr ⟨Q2_5i (List.mem_of_getElem? (i := 1) rfl), rfl⟩
theorem q_368 : Cond.methodLink RX3 93 Lib.MathLoose.abs_long.x ∈ AG := List.mem_filter.mpr ⟨Q2_5i (List.mem_of_getElem? (i := 2) rfl), rfl⟩
theorem q_369 : Cond.methodLink RX3 68 yJ6_bitCount_0f7a4 ∈ AG := List.mem_filter.mpr ⟨Q2_5i (List.mem_of_getElem? (i := 3) rfl), rfl⟩
theorem q_370 : Cond.static yJ6_bitCount_0f7a4 ∈ AG := List.mem_filter.mpr ⟨Q2_5i (List.mem_of_getElem? (i := 4) rfl), rfl⟩
theorem q_371 : Cond.code yJ6_bitCount_0f7a4 cJ6_bitCount_0f7a4 1 (some .int) ∈ AG := List.mem_filter.mpr ⟨Q2_5i (List.mem_of_getElem? (i := 5) rfl), rfl⟩
theorem q_372 : Cond.constant RJ6 265 (1431655765) ∈ AG := List.mem_filter.mpr ⟨Q2_5i (List.mem_of_getElem? (i := 6) rfl), rfl⟩
theorem q_373 : Cond.constant RJ6 266 (858993459) ∈ AG := List.mem_filter.mpr ⟨Q2_5i (List.mem_of_getElem? (i := 7) rfl), rfl⟩
theorem q_374 : Cond.constant RJ6 267 (252645135) ∈ AG := List.mem_filter.mpr ⟨Q2_5i (List.mem_of_getElem? (i := 8) rfl), rfl⟩
theorem q_375 : Cond.methodLink RX3 86 yX3_leastUpperEnd ∈ AG := List.mem_filter.mpr ⟨Q2_5i (List.mem_of_getElem? (i := 9) rfl), rfl⟩
theorem q_377 : Cond.instanceMethod yX3_leastUpperEnd ∈ AG := List.mem_filter.mpr ⟨Q2_5i (List.mem_of_getElem? (i := 11) rfl), rfl⟩
theorem q_378 : Cond.code yX3_leastUpperEnd cX3_leastUpperEnd 7 (some .long) ∈ AG := List.mem_filter.mpr ⟨Q2_5i (List.mem_of_getElem? (i := 12) rfl), rfl⟩
theorem q_379 : Cond.methodLink RX5 238 yX3_cluster ∈ AG := List.mem_filter.mpr ⟨Q2_5i (List.mem_of_getElem? (i := 13) rfl), rfl⟩
theorem q_380 : Cond.instanceMethod yX3_cluster ∈ AG := List.mem_filter.mpr ⟨Q2_5i (List.mem_of_getElem? (i := 14) rfl), rfl⟩
theorem q_381 : Cond.selects RX3 yX3_cluster yX3_cluster ∈ AG := List.mem_filter.mpr ⟨Q2_5i (List.mem_of_getElem? (i := 15) rfl), rfl⟩
theorem q_382 : Cond.code yX3_cluster cX3_cluster 3 none ∈ AG := List.mem_filter.mpr ⟨Q2_6i (List.mem_of_getElem? (i := 0) rfl), rfl⟩
theorem q_383 : Cond.methodLink RX3 98 yX3_widestSpread ∈ AG := List.mem_filter.mpr ⟨Q2_6i (List.mem_of_getElem? (i := 1) rfl), rfl⟩
theorem q_385 : Cond.instanceMethod yX3_widestSpread ∈ AG := List.mem_filter.mpr ⟨Q2_6i (List.mem_of_getElem? (i := 3) rfl), rfl⟩
theorem q_386 : Cond.code yX3_widestSpread cX3_widestSpread 3 (some .int) ∈ AG := List.mem_filter.mpr ⟨Q2_6i (List.mem_of_getElem? (i := 4) rfl), rfl⟩
theorem q_387 : Cond.methodLink RX3 101 yX3_spread ∈ AG := List.mem_filter.mpr ⟨Q2_6i (List.mem_of_getElem? (i := 5) rfl), rfl⟩
theorem q_389 : Cond.instanceMethod yX3_spread ∈ AG := List.mem_filter.mpr ⟨Q2_6i (List.mem_of_getElem? (i := 7) rfl), rfl⟩
theorem q_390 : Cond.code yX3_spread cX3_spread 6 (some .long) ∈ AG := List.mem_filter.mpr ⟨Q2_6i (List.mem_of_getElem? (i := 8) rfl), rfl⟩
theorem q_391 : Cond.methodLink RX3 104 yX3_leastJitter ∈ AG := List.mem_filter.mpr ⟨Q2_6i (List.mem_of_getElem? (i := 9) rfl), rfl⟩
theorem q_393 : Cond.instanceMethod yX3_leastJitter ∈ AG := List.mem_filter.mpr ⟨Q2_6i (List.mem_of_getElem? (i := 11) rfl), rfl⟩
theorem q_394 : Cond.code yX3_leastJitter cX3_leastJitter 5 (some .long) ∈ AG := List.mem_filter.mpr ⟨Q2_6i (List.mem_of_getElem? (i := 12) rfl), rfl⟩
theorem q_395 : Cond.methodLink RX5 144 yX3_agreed ∈ AG := List.mem_filter.mpr ⟨Q2_6i (List.mem_of_getElem? (i := 13) rfl), rfl⟩
theorem q_396 : Cond.instanceMethod yX3_agreed ∈ AG := List.mem_filter.mpr ⟨Q2_6i (List.mem_of_getElem? (i := 14) rfl), rfl⟩
theorem q_397 : Cond.selects RX3 yX3_agreed yX3_agreed ∈ AG := List.mem_filter.mpr ⟨Q2_6i (List.mem_of_getElem? (i := 15) rfl), rfl⟩
theorem q_398 : Cond.code yX3_agreed cX3_agreed 1 (some .int) ∈ AG := List.mem_filter.mpr ⟨Q2_7i (List.mem_of_getElem? (i := 0) rfl), rfl⟩
theorem q_399 : Cond.methodLink RL 151 yX5_hasMajority ∈ AG := List.mem_filter.mpr ⟨Q2_7i (List.mem_of_getElem? (i := 1) rfl), rfl⟩
theorem q_400 : Cond.instanceMethod yX5_hasMajority ∈ AG := List.mem_filter.mpr ⟨Q2_7i (List.mem_of_getElem? (i := 2) rfl), rfl⟩
theorem q_401 : Cond.selects RX5 yX5_hasMajority yX5_hasMajority ∈ AG := List.mem_filter.mpr ⟨Q2_7i (List.mem_of_getElem? (i := 3) rfl), rfl⟩
theorem q_402 : Cond.code yX5_hasMajority cX5_hasMajority 1 (some .boolean) ∈ AG := List.mem_filter.mpr ⟨Q2_7i (List.mem_of_getElem? (i := 4) rfl), rfl⟩
theorem q_403 : Cond.methodLink RX5 147 yX3_isMajority ∈ AG := List.mem_filter.mpr ⟨Q2_7i (List.mem_of_getElem? (i := 5) rfl), rfl⟩
theorem q_404 : Cond.instanceMethod yX3_isMajority ∈ AG := List.mem_filter.mpr ⟨Q2_7i (List.mem_of_getElem? (i := 6) rfl), rfl⟩
theorem q_405 : Cond.selects RX3 yX3_isMajority yX3_isMajority ∈ AG := List.mem_filter.mpr ⟨Q2_7i (List.mem_of_getElem? (i := 7) rfl), rfl⟩
theorem q_406 : Cond.code yX3_isMajority cX3_isMajority 1 (some .boolean) ∈ AG := List.mem_filter.mpr ⟨Q2_7i (List.mem_of_getElem? (i := 8) rfl), rfl⟩
theorem q_407 : Cond.methodLink RX3 65 yX3_agreed ∈ AG := List.mem_filter.mpr ⟨Q2_7i (List.mem_of_getElem? (i := 9) rfl), rfl⟩
theorem q_408 : Cond.methodLink RL 156 yX5_agreeing ∈ AG := List.mem_filter.mpr ⟨Q2_7i (List.mem_of_getElem? (i := 10) rfl), rfl⟩
theorem q_409 : Cond.instanceMethod yX5_agreeing ∈ AG := List.mem_filter.mpr ⟨Q2_7i (List.mem_of_getElem? (i := 11) rfl), rfl⟩
theorem q_410 : Cond.selects RX5 yX5_agreeing yX5_agreeing ∈ AG := List.mem_filter.mpr ⟨Q2_7i (List.mem_of_getElem? (i := 12) rfl), rfl⟩
theorem q_411 : Cond.code yX5_agreeing cX5_agreeing 1 (some .int) ∈ AG := List.mem_filter.mpr ⟨Q2_7i (List.mem_of_getElem? (i := 13) rfl), rfl⟩
theorem q_412 : Cond.methodLink RX5 151 yX3_agreeingBits ∈ AG := List.mem_filter.mpr ⟨Q2_7i (List.mem_of_getElem? (i := 14) rfl), rfl⟩
theorem q_413 : Cond.instanceMethod yX3_agreeingBits ∈ AG := List.mem_filter.mpr ⟨Q2_7i (List.mem_of_getElem? (i := 15) rfl), rfl⟩
theorem q_414 : Cond.selects RX3 yX3_agreeingBits yX3_agreeingBits ∈ AG := List.mem_filter.mpr ⟨Q2_8i (List.mem_of_getElem? (i := 0) rfl), rfl⟩
theorem q_415 : Cond.code yX3_agreeingBits cX3_agreeingBits 1 (some .int) ∈ AG := List.mem_filter.mpr ⟨Q2_8i (List.mem_of_getElem? (i := 1) rfl), rfl⟩
theorem q_416 : Cond.methodLink RL 167 yX5_survivors ∈ AG := List.mem_filter.mpr ⟨Q2_8i (List.mem_of_getElem? (i := 2) rfl), rfl⟩
theorem q_417 : Cond.instanceMethod yX5_survivors ∈ AG := List.mem_filter.mpr ⟨Q2_8i (List.mem_of_getElem? (i := 3) rfl), rfl⟩
theorem q_418 : Cond.selects RX5 yX5_survivors yX5_survivors ∈ AG := List.mem_filter.mpr ⟨Q2_8i (List.mem_of_getElem? (i := 4) rfl), rfl⟩
theorem q_419 : Cond.code yX5_survivors cX5_survivors 1 (some .int) ∈ AG := List.mem_filter.mpr ⟨Q2_8i (List.mem_of_getElem? (i := 5) rfl), rfl⟩
theorem q_420 : Cond.methodLink RX5 163 yX3_survivorBits ∈ AG := List.mem_filter.mpr ⟨Q2_8i (List.mem_of_getElem? (i := 6) rfl), rfl⟩
theorem q_421 : Cond.instanceMethod yX3_survivorBits ∈ AG := List.mem_filter.mpr ⟨Q2_8i (List.mem_of_getElem? (i := 7) rfl), rfl⟩
theorem q_422 : Cond.selects RX3 yX3_survivorBits yX3_survivorBits ∈ AG := List.mem_filter.mpr ⟨Q2_8i (List.mem_of_getElem? (i := 8) rfl), rfl⟩
theorem q_423 : Cond.code yX3_survivorBits cX3_survivorBits 1 (some .int) ∈ AG := List.mem_filter.mpr ⟨Q2_8i (List.mem_of_getElem? (i := 9) rfl), rfl⟩
theorem q_424 : Cond.methodLink RL 174 yX5_peer ∈ AG := List.mem_filter.mpr ⟨Q2_8i (List.mem_of_getElem? (i := 10) rfl), rfl⟩
theorem q_425 : Cond.instanceMethod yX5_peer ∈ AG := List.mem_filter.mpr ⟨Q2_8i (List.mem_of_getElem? (i := 11) rfl), rfl⟩
theorem q_426 : Cond.selects RX5 yX5_peer yX5_peer ∈ AG := List.mem_filter.mpr ⟨Q2_8i (List.mem_of_getElem? (i := 12) rfl), rfl⟩
theorem q_427 : Cond.code yX5_peer cX5_peer 1 (some .int) ∈ AG := List.mem_filter.mpr ⟨Q2_8i (List.mem_of_getElem? (i := 13) rfl), rfl⟩
theorem q_428 : Cond.methodLink RX5 169 yX3_preferred ∈ AG := List.mem_filter.mpr ⟨Q2_8i (List.mem_of_getElem? (i := 14) rfl), rfl⟩
theorem q_429 : Cond.instanceMethod yX3_preferred ∈ AG := List.mem_filter.mpr ⟨Q2_8i (List.mem_of_getElem? (i := 15) rfl), rfl⟩
theorem q_430 : Cond.selects RX3 yX3_preferred yX3_preferred ∈ AG := List.mem_filter.mpr ⟨Q2_9i (List.mem_of_getElem? (i := 0) rfl), rfl⟩
theorem q_431 : Cond.code yX3_preferred cX3_preferred 3 (some .int) ∈ AG := List.mem_filter.mpr ⟨Q2_9i (List.mem_of_getElem? (i := 1) rfl), rfl⟩
theorem q_432 : Cond.methodLink RX3 119 yX3_isBetter ∈ AG := List.mem_filter.mpr ⟨Q2_9i (List.mem_of_getElem? (i := 2) rfl), rfl⟩
theorem q_434 : Cond.instanceMethod yX3_isBetter ∈ AG := List.mem_filter.mpr ⟨Q2_9i (List.mem_of_getElem? (i := 4) rfl), rfl⟩
theorem q_435 : Cond.code yX3_isBetter cX3_isBetter 3 (some .boolean) ∈ AG := List.mem_filter.mpr ⟨Q2_9i (List.mem_of_getElem? (i := 5) rfl), rfl⟩
theorem q_436 : Cond.methodLink RL 181 yX5_stratum ∈ AG := List.mem_filter.mpr ⟨Q2_9i (List.mem_of_getElem? (i := 6) rfl), rfl⟩
theorem q_437 : Cond.instanceMethod yX5_stratum ∈ AG := List.mem_filter.mpr ⟨Q2_9i (List.mem_of_getElem? (i := 7) rfl), rfl⟩
theorem q_438 : Cond.selects RX5 yX5_stratum yX5_stratum ∈ AG := List.mem_filter.mpr ⟨Q2_9i (List.mem_of_getElem? (i := 8) rfl), rfl⟩
theorem q_439 : Cond.code yX5_stratum cX5_stratum 1 (some .int) ∈ AG := List.mem_filter.mpr ⟨Q2_9i (List.mem_of_getElem? (i := 9) rfl), rfl⟩
theorem q_440 : Cond.methodLink RL 185 yX5_steps ∈ AG := List.mem_filter.mpr ⟨Q2_9i (List.mem_of_getElem? (i := 10) rfl), rfl⟩
theorem q_441 : Cond.instanceMethod yX5_steps ∈ AG := List.mem_filter.mpr ⟨Q2_9i (List.mem_of_getElem? (i := 11) rfl), rfl⟩
theorem q_442 : Cond.selects RX5 yX5_steps yX5_steps ∈ AG := List.mem_filter.mpr ⟨Q2_9i (List.mem_of_getElem? (i := 12) rfl), rfl⟩
theorem q_443 : Cond.code yX5_steps cX5_steps 1 (some .int) ∈ AG := List.mem_filter.mpr ⟨Q2_9i (List.mem_of_getElem? (i := 13) rfl), rfl⟩
theorem q_444 : Cond.methodLink RL 189 yX5_synchronizations ∈ AG := List.mem_filter.mpr ⟨Q2_9i (List.mem_of_getElem? (i := 14) rfl), rfl⟩
theorem q_445 : Cond.instanceMethod yX5_synchronizations ∈ AG := List.mem_filter.mpr ⟨Q2_9i (List.mem_of_getElem? (i := 15) rfl), rfl⟩
theorem q_446 : Cond.selects RX5 yX5_synchronizations yX5_synchronizations ∈ AG := List.mem_filter.mpr ⟨Q2_10i (List.mem_of_getElem? (i := 0) rfl), rfl⟩
theorem q_447 : Cond.code yX5_synchronizations cX5_synchronizations 1 (some .int) ∈ AG := List.mem_filter.mpr ⟨Q2_10i (List.mem_of_getElem? (i := 1) rfl), rfl⟩
theorem q_448 : Cond.methodLink RL 76 yL_restart ∈ AG := List.mem_filter.mpr ⟨Q2_10i (List.mem_of_getElem? (i := 2) rfl), rfl⟩
theorem q_449 : Cond.static yL_restart ∈ AG := List.mem_filter.mpr ⟨Q2_10i (List.mem_of_getElem? (i := 3) rfl), rfl⟩
theorem q_450 : Cond.codeWith yL_restart cL_restart 3 (some .int) [(0, 5, 8, 13)] ∈ AG := List.mem_filter.mpr ⟨Q2_10i (List.mem_of_getElem? (i := 4) rfl), rfl⟩
theorem q_451 : Cond.classLink RL 13 "java/lang/IllegalArgumentException" ∈ AG := List.mem_filter.mpr ⟨Q2_10i (List.mem_of_getElem? (i := 5) rfl), rfl⟩
theorem q_452 : Cond.methodLink RL 7 yX5_restart ∈ AG := List.mem_filter.mpr ⟨Q2_10i (List.mem_of_getElem? (i := 6) rfl), rfl⟩
theorem q_453 : Cond.instanceMethod yX5_restart ∈ AG := List.mem_filter.mpr ⟨Q2_10i (List.mem_of_getElem? (i := 7) rfl), rfl⟩
theorem q_454 : Cond.selects RX5 yX5_restart yX5_restart ∈ AG := List.mem_filter.mpr ⟨Q2_10i (List.mem_of_getElem? (i := 8) rfl), rfl⟩
theorem q_455 : Cond.code yX5_restart cX5_restart 2 none ∈ AG := List.mem_filter.mpr ⟨Q2_10i (List.mem_of_getElem? (i := 9) rfl), rfl⟩
theorem q_456 : Cond.constant RX5 41 (-1000000000) ∈ AG := List.mem_filter.mpr ⟨Q2_10i (List.mem_of_getElem? (i := 10) rfl), rfl⟩
theorem q_457 : Cond.constant RX5 42 (1000000000) ∈ AG := List.mem_filter.mpr ⟨Q2_10i (List.mem_of_getElem? (i := 11) rfl), rfl⟩
theorem q_458 : Cond.methodLink RX5 43 yX5_isWithin ∈ AG := List.mem_filter.mpr ⟨Q2_10i (List.mem_of_getElem? (i := 12) rfl), rfl⟩
theorem q_459 : Cond.static yX5_isWithin ∈ AG := List.mem_filter.mpr ⟨Q2_10i (List.mem_of_getElem? (i := 13) rfl), rfl⟩
theorem q_460 : Cond.code yX5_isWithin cX5_isWithin 3 (some .boolean) ∈ AG := List.mem_filter.mpr ⟨Q2_10i (List.mem_of_getElem? (i := 14) rfl), rfl⟩
theorem q_461 : Cond.classLink RX5 47 "java/lang/IllegalArgumentException" ∈ AG := List.mem_filter.mpr ⟨Q2_10i (List.mem_of_getElem? (i := 15) rfl), rfl⟩
theorem q_462 : Cond.instantiable "java/lang/IllegalArgumentException" 6 ∈ AG := List.mem_filter.mpr ⟨Q2_11i (List.mem_of_getElem? (i := 0) rfl), rfl⟩
theorem q_470 : Cond.selects "java/lang/IllegalArgumentException" ⟨"java/lang/Throwable", "fillInStackTrace", "(I)Ljava/lang/Throwable;"⟩ ⟨"java/lang/Throwable", "fillInStackTrace", "(I)Ljava/lang/Throwable;"⟩ ∈ AG := List.mem_filter.mpr ⟨Q2_11i (List.mem_of_getElem? (i := 8) rfl), rfl⟩
theorem q_471 : Cond.selects "java/lang/IllegalArgumentException" ⟨"java/lang/Throwable", "fillInStackTrace", "()Ljava/lang/Throwable;"⟩ ⟨"java/lang/Throwable", "fillInStackTrace", "()Ljava/lang/Throwable;"⟩ ∈ AG := List.mem_filter.mpr ⟨Q2_11i (List.mem_of_getElem? (i := 9) rfl), rfl⟩
theorem q_482 : Cond.fieldLink "java/lang/Throwable" 198 "java/lang/Throwable" "backtrace" "Ljava/lang/Object;" ∈ AG := List.mem_filter.mpr ⟨Q2_12i (List.mem_of_getElem? (i := 4) rfl), rfl⟩
theorem q_484 : Cond.instanceMethod ⟨"java/lang/Throwable", "<init>", "()V"⟩ ∈ AG := List.mem_filter.mpr ⟨Q2_12i (List.mem_of_getElem? (i := 6) rfl), rfl⟩
theorem q_485 : Cond.code ⟨"java/lang/Throwable", "<init>", "()V"⟩ prog_16_method_1_code 1 none ∈ AG := List.mem_filter.mpr ⟨Q2_12i (List.mem_of_getElem? (i := 7) rfl), rfl⟩
theorem q_486 : Cond.methodLink "java/lang/Throwable" 1 objectInit ∈ AG := List.mem_filter.mpr ⟨Q2_12i (List.mem_of_getElem? (i := 8) rfl), rfl⟩
theorem q_487 : Cond.fieldLink "java/lang/Throwable" 13 "java/lang/Throwable" "UNASSIGNED_STACK" "[Ljava/lang/StackTraceElement;" ∈ AG := List.mem_filter.mpr ⟨Q2_12i (List.mem_of_getElem? (i := 9) rfl), rfl⟩
theorem q_489 : Cond.fieldLink "java/lang/Throwable" 20 "java/lang/Throwable" "SUPPRESSED_SENTINEL" "Ljava/util/List;" ∈ AG := List.mem_filter.mpr ⟨Q2_12i (List.mem_of_getElem? (i := 11) rfl), rfl⟩
theorem q_491 : Cond.methodLink "java/lang/Throwable" 27 ⟨"java/lang/Throwable", "fillInStackTrace", "()Ljava/lang/Throwable;"⟩ ∈ AG := List.mem_filter.mpr ⟨Q2_12i (List.mem_of_getElem? (i := 13) rfl), rfl⟩
theorem q_492 : Cond.instanceMethod ⟨"java/lang/Throwable", "fillInStackTrace", "()Ljava/lang/Throwable;"⟩ ∈ AG := List.mem_filter.mpr ⟨Q2_12i (List.mem_of_getElem? (i := 14) rfl), rfl⟩
theorem q_494 : Cond.selects "java/lang/IllegalStateException" ⟨"java/lang/Throwable", "fillInStackTrace", "()Ljava/lang/Throwable;"⟩ ⟨"java/lang/Throwable", "fillInStackTrace", "()Ljava/lang/Throwable;"⟩ ∈ AG := List.mem_filter.mpr ⟨Q2_13i (List.mem_of_getElem? (i := 0) rfl), rfl⟩
theorem q_495 : Cond.selects "java/lang/IndexOutOfBoundsException" ⟨"java/lang/Throwable", "fillInStackTrace", "()Ljava/lang/Throwable;"⟩ ⟨"java/lang/Throwable", "fillInStackTrace", "()Ljava/lang/Throwable;"⟩ ∈ AG := List.mem_filter.mpr ⟨Q2_13i (List.mem_of_getElem? (i := 1) rfl), rfl⟩
theorem q_497 : Cond.methodLink "java/lang/Throwable" 202 ⟨"java/lang/Throwable", "fillInStackTrace", "(I)Ljava/lang/Throwable;"⟩ ∈ AG := List.mem_filter.mpr ⟨Q2_13i (List.mem_of_getElem? (i := 3) rfl), rfl⟩
theorem q_499 : Cond.instanceMethod ⟨"java/lang/Throwable", "fillInStackTrace", "(I)Ljava/lang/Throwable;"⟩ ∈ AG := List.mem_filter.mpr ⟨Q2_13i (List.mem_of_getElem? (i := 5) rfl), rfl⟩
theorem q_500 : Cond.instantiable "java/lang/Throwable" 6 ∈ AG := List.mem_filter.mpr ⟨Q2_13i (List.mem_of_getElem? (i := 6) rfl), rfl⟩
theorem q_502 : Cond.methodLink RX5 49 ⟨"java/lang/IllegalArgumentException", "<init>", "()V"⟩ ∈ AG := List.mem_filter.mpr ⟨Q2_13i (List.mem_of_getElem? (i := 8) rfl), rfl⟩
theorem q_503 : Cond.instanceMethod ⟨"java/lang/IllegalArgumentException", "<init>", "()V"⟩ ∈ AG := List.mem_filter.mpr ⟨Q2_13i (List.mem_of_getElem? (i := 9) rfl), rfl⟩
theorem q_504 : Cond.code ⟨"java/lang/IllegalArgumentException", "<init>", "()V"⟩ prog_10_method_1_code 1 none ∈ AG := List.mem_filter.mpr ⟨Q2_13i (List.mem_of_getElem? (i := 10) rfl), rfl⟩
theorem q_505 : Cond.methodLink "java/lang/IllegalArgumentException" 1 ⟨"java/lang/RuntimeException", "<init>", "()V"⟩ ∈ AG := List.mem_filter.mpr ⟨Q2_13i (List.mem_of_getElem? (i := 11) rfl), rfl⟩
theorem q_506 : Cond.instanceMethod ⟨"java/lang/RuntimeException", "<init>", "()V"⟩ ∈ AG := List.mem_filter.mpr ⟨Q2_13i (List.mem_of_getElem? (i := 12) rfl), rfl⟩
theorem q_507 : Cond.code ⟨"java/lang/RuntimeException", "<init>", "()V"⟩ prog_15_method_1_code 1 none ∈ AG := List.mem_filter.mpr ⟨Q2_13i (List.mem_of_getElem? (i := 13) rfl), rfl⟩
theorem q_508 : Cond.methodLink "java/lang/RuntimeException" 1 ⟨"java/lang/Exception", "<init>", "()V"⟩ ∈ AG := List.mem_filter.mpr ⟨Q2_13i (List.mem_of_getElem? (i := 14) rfl), rfl⟩
theorem q_509 : Cond.instanceMethod ⟨"java/lang/Exception", "<init>", "()V"⟩ ∈ AG := List.mem_filter.mpr ⟨Q2_13i (List.mem_of_getElem? (i := 15) rfl), rfl⟩
theorem q_510 : Cond.code ⟨"java/lang/Exception", "<init>", "()V"⟩ prog_9_method_1_code 1 none ∈ AG := List.mem_filter.mpr ⟨Q2_14i (List.mem_of_getElem? (i := 0) rfl), rfl⟩
theorem q_511 : Cond.methodLink "java/lang/Exception" 1 ⟨"java/lang/Throwable", "<init>", "()V"⟩ ∈ AG := List.mem_filter.mpr ⟨Q2_14i (List.mem_of_getElem? (i := 1) rfl), rfl⟩
theorem q_513 : Cond.fieldLink "java/lang/Throwable" 7 "java/lang/Throwable" "cause" "Ljava/lang/Throwable;" ∈ AG := List.mem_filter.mpr ⟨Q2_14i (List.mem_of_getElem? (i := 3) rfl), rfl⟩
theorem q_514 : Cond.fieldLink "java/lang/Throwable" 17 "java/lang/Throwable" "stackTrace" "[Ljava/lang/StackTraceElement;" ∈ AG := List.mem_filter.mpr ⟨Q2_14i (List.mem_of_getElem? (i := 4) rfl), rfl⟩
theorem q_515 : Cond.fieldLink "java/lang/Throwable" 24 "java/lang/Throwable" "suppressedExceptions" "Ljava/util/List;" ∈ AG := List.mem_filter.mpr ⟨Q2_14i (List.mem_of_getElem? (i := 5) rfl), rfl⟩
theorem q_524 : Cond.methodLink RL 82 yL_pass ∈ AG := List.mem_filter.mpr ⟨Q2_14i (List.mem_of_getElem? (i := 14) rfl), rfl⟩
theorem q_525 : Cond.static yL_pass ∈ AG := List.mem_filter.mpr ⟨Q2_14i (List.mem_of_getElem? (i := 15) rfl), rfl⟩
theorem q_526 : Cond.codeWith yL_pass cL_pass 4 (some .int) [(0, 8, 11, 13), (0, 8, 14, 19)] ∈ AG := List.mem_filter.mpr ⟨Q3_0i (List.mem_of_getElem? (i := 0) rfl), rfl⟩
theorem q_527 : Cond.classLink RL 19 "java/lang/IllegalStateException" ∈ AG := List.mem_filter.mpr ⟨Q3_0i (List.mem_of_getElem? (i := 1) rfl), rfl⟩
theorem q_528 : Cond.methodLink RL 15 yX5_pass ∈ AG := List.mem_filter.mpr ⟨Q3_0i (List.mem_of_getElem? (i := 2) rfl), rfl⟩
theorem q_529 : Cond.instanceMethod yX5_pass ∈ AG := List.mem_filter.mpr ⟨Q3_0i (List.mem_of_getElem? (i := 3) rfl), rfl⟩
theorem q_530 : Cond.selects RX5 yX5_pass yX5_pass ∈ AG := List.mem_filter.mpr ⟨Q3_0i (List.mem_of_getElem? (i := 4) rfl), rfl⟩
theorem q_531 : Cond.code yX5_pass cX5_pass 2 (some .long) ∈ AG := List.mem_filter.mpr ⟨Q3_0i (List.mem_of_getElem? (i := 5) rfl), rfl⟩
theorem q_532 : Cond.methodLink RX5 50 yX5_isBeyondLastTrueTime ∈ AG := List.mem_filter.mpr ⟨Q3_0i (List.mem_of_getElem? (i := 6) rfl), rfl⟩
theorem q_534 : Cond.instanceMethod yX5_isBeyondLastTrueTime ∈ AG := List.mem_filter.mpr ⟨Q3_0i (List.mem_of_getElem? (i := 8) rfl), rfl⟩
theorem q_535 : Cond.code yX5_isBeyondLastTrueTime cX5_isBeyondLastTrueTime 3 (some .boolean) ∈ AG := List.mem_filter.mpr ⟨Q3_0i (List.mem_of_getElem? (i := 9) rfl), rfl⟩
theorem q_536 : Cond.constantLong RX5 203 (1000000000000) ∈ AG := List.mem_filter.mpr ⟨Q3_0i (List.mem_of_getElem? (i := 10) rfl), rfl⟩
theorem q_537 : Cond.classLink RX5 54 "java/lang/IllegalStateException" ∈ AG := List.mem_filter.mpr ⟨Q3_0i (List.mem_of_getElem? (i := 11) rfl), rfl⟩
theorem q_538 : Cond.instantiable "java/lang/IllegalStateException" 6 ∈ AG := List.mem_filter.mpr ⟨Q3_0i (List.mem_of_getElem? (i := 12) rfl), rfl⟩
theorem q_540 : Cond.selects "java/lang/IllegalStateException" ⟨"java/lang/Throwable", "fillInStackTrace", "(I)Ljava/lang/Throwable;"⟩ ⟨"java/lang/Throwable", "fillInStackTrace", "(I)Ljava/lang/Throwable;"⟩ ∈ AG := List.mem_filter.mpr ⟨Q3_0i (List.mem_of_getElem? (i := 14) rfl), rfl⟩
theorem q_546 : Cond.methodLink RX5 56 ⟨"java/lang/IllegalStateException", "<init>", "()V"⟩ ∈ AG := List.mem_filter.mpr ⟨Q3_1i (List.mem_of_getElem? (i := 4) rfl), rfl⟩
theorem q_547 : Cond.instanceMethod ⟨"java/lang/IllegalStateException", "<init>", "()V"⟩ ∈ AG := List.mem_filter.mpr ⟨Q3_1i (List.mem_of_getElem? (i := 5) rfl), rfl⟩
theorem q_548 : Cond.code ⟨"java/lang/IllegalStateException", "<init>", "()V"⟩ prog_11_method_1_code 1 none ∈ AG := List.mem_filter.mpr ⟨Q3_1i (List.mem_of_getElem? (i := 6) rfl), rfl⟩
theorem q_549 : Cond.methodLink "java/lang/IllegalStateException" 1 ⟨"java/lang/RuntimeException", "<init>", "()V"⟩ ∈ AG := List.mem_filter.mpr ⟨Q3_1i (List.mem_of_getElem? (i := 7) rfl), rfl⟩
theorem q_552 : Cond.methodLink RX5 57 yX5_elapse ∈ AG := List.mem_filter.mpr ⟨Q3_1i (List.mem_of_getElem? (i := 10) rfl), rfl⟩
theorem q_554 : Cond.instanceMethod yX5_elapse ∈ AG := List.mem_filter.mpr ⟨Q3_1i (List.mem_of_getElem? (i := 12) rfl), rfl⟩
theorem q_555 : Cond.code yX5_elapse cX5_elapse 2 none ∈ AG := List.mem_filter.mpr ⟨Q3_1i (List.mem_of_getElem? (i := 13) rfl), rfl⟩
theorem q_556 : Cond.methodLink RX5 205 yX1_elapse ∈ AG := List.mem_filter.mpr ⟨Q3_1i (List.mem_of_getElem? (i := 14) rfl), rfl⟩
theorem q_557 : Cond.instanceMethod yX1_elapse ∈ AG := List.mem_filter.mpr ⟨Q3_1i (List.mem_of_getElem? (i := 15) rfl), rfl⟩
theorem q_558 : Cond.selects RX1 yX1_elapse yX1_elapse ∈ AG := List.mem_filter.mpr ⟨Q3_2i (List.mem_of_getElem? (i := 0) rfl), rfl⟩
theorem q_559 : Cond.code yX1_elapse cX1_elapse 6 none ∈ AG := List.mem_filter.mpr ⟨Q3_2i (List.mem_of_getElem? (i := 1) rfl), rfl⟩
theorem q_560 : Cond.constantLong RX1 33 (500) ∈ AG := List.mem_filter.mpr ⟨Q3_2i (List.mem_of_getElem? (i := 2) rfl), rfl⟩
theorem q_561 : Cond.methodLink RX1 35 Lib.MathLoose.min_long.x ∈ AG := List.mem_filter.mpr ⟨Q3_2i (List.mem_of_getElem? (i := 3) rfl), rfl⟩
theorem q_562 : Cond.static Lib.MathLoose.min_long.x ∈ AG := List.mem_filter.mpr ⟨Q3_2i (List.mem_of_getElem? (i := 4) rfl), rfl⟩
theorem q_563 : Cond.code Lib.MathLoose.min_long.x Lib.MathLoose.min_long.code 4 (some .long) ∈ AG := List.mem_filter.mpr ⟨Q3_2i (List.mem_of_getElem? (i := 5) rfl), rfl⟩
theorem q_564 : Cond.methodLink RX1 38 Lib.MathLoose.max_long.x ∈ AG := List.mem_filter.mpr ⟨Q3_2i (List.mem_of_getElem? (i := 6) rfl), rfl⟩
theorem q_565 : Cond.static Lib.MathLoose.max_long.x ∈ AG := List.mem_filter.mpr ⟨Q3_2i (List.mem_of_getElem? (i := 7) rfl), rfl⟩
theorem q_566 : Cond.code Lib.MathLoose.max_long.x Lib.MathLoose.max_long.code 4 (some .long) ∈ AG := List.mem_filter.mpr ⟨Q3_2i (List.mem_of_getElem? (i := 8) rfl), rfl⟩
theorem q_567 : Cond.methodLink RL 86 yL_setDrift ∈ AG := List.mem_filter.mpr ⟨Q3_2i (List.mem_of_getElem? (i := 9) rfl), rfl⟩
theorem q_568 : Cond.static yL_setDrift ∈ AG := List.mem_filter.mpr ⟨Q3_2i (List.mem_of_getElem? (i := 10) rfl), rfl⟩
theorem q_569 : Cond.codeWith yL_setDrift cL_setDrift 4 (some .int) [(0, 9, 12, 13)] ∈ AG := List.mem_filter.mpr ⟨Q3_2i (List.mem_of_getElem? (i := 11) rfl), rfl⟩
theorem q_570 : Cond.methodLink RL 21 yX5_setDrift ∈ AG := List.mem_filter.mpr ⟨Q3_2i (List.mem_of_getElem? (i := 12) rfl), rfl⟩
theorem q_571 : Cond.instanceMethod yX5_setDrift ∈ AG := List.mem_filter.mpr ⟨Q3_2i (List.mem_of_getElem? (i := 13) rfl), rfl⟩
theorem q_572 : Cond.selects RX5 yX5_setDrift yX5_setDrift ∈ AG := List.mem_filter.mpr ⟨Q3_2i (List.mem_of_getElem? (i := 14) rfl), rfl⟩
theorem q_573 : Cond.code yX5_setDrift cX5_setDrift 2 (some .int) ∈ AG := List.mem_filter.mpr ⟨Q3_2i (List.mem_of_getElem? (i := 15) rfl), rfl⟩
theorem q_574 : Cond.methodLink RX5 64 yX1_changeDrift ∈ AG := List.mem_filter.mpr ⟨Q3_3i (List.mem_of_getElem? (i := 0) rfl), rfl⟩
theorem q_575 : Cond.instanceMethod yX1_changeDrift ∈ AG := List.mem_filter.mpr ⟨Q3_3i (List.mem_of_getElem? (i := 1) rfl), rfl⟩
theorem q_576 : Cond.selects RX1 yX1_changeDrift yX1_changeDrift ∈ AG := List.mem_filter.mpr ⟨Q3_3i (List.mem_of_getElem? (i := 2) rfl), rfl⟩
theorem q_577 : Cond.code yX1_changeDrift cX1_changeDrift 3 (some .int) ∈ AG := List.mem_filter.mpr ⟨Q3_3i (List.mem_of_getElem? (i := 3) rfl), rfl⟩
theorem q_578 : Cond.methodLink RL 109 yL_announceLeap ∈ AG := List.mem_filter.mpr ⟨Q3_3i (List.mem_of_getElem? (i := 4) rfl), rfl⟩
theorem q_579 : Cond.static yL_announceLeap ∈ AG := List.mem_filter.mpr ⟨Q3_3i (List.mem_of_getElem? (i := 5) rfl), rfl⟩
theorem q_580 : Cond.codeWith yL_announceLeap cL_announceLeap 5 (some .int) [(0, 9, 12, 13), (0, 9, 16, 19)] ∈ AG := List.mem_filter.mpr ⟨Q3_3i (List.mem_of_getElem? (i := 6) rfl), rfl⟩
theorem q_581 : Cond.methodLink RL 25 yX5_announceLeap ∈ AG := List.mem_filter.mpr ⟨Q3_3i (List.mem_of_getElem? (i := 7) rfl), rfl⟩
theorem q_582 : Cond.instanceMethod yX5_announceLeap ∈ AG := List.mem_filter.mpr ⟨Q3_3i (List.mem_of_getElem? (i := 8) rfl), rfl⟩
theorem q_583 : Cond.selects RX5 yX5_announceLeap yX5_announceLeap ∈ AG := List.mem_filter.mpr ⟨Q3_3i (List.mem_of_getElem? (i := 9) rfl), rfl⟩
theorem q_584 : Cond.code yX5_announceLeap cX5_announceLeap 5 (some .long) ∈ AG := List.mem_filter.mpr ⟨Q3_3i (List.mem_of_getElem? (i := 10) rfl), rfl⟩
theorem q_585 : Cond.methodLink RX5 79 yX0_smearBeginning ∈ AG := List.mem_filter.mpr ⟨Q3_3i (List.mem_of_getElem? (i := 11) rfl), rfl⟩
theorem q_586 : Cond.methodLink RX5 83 yX0_isAnnounced ∈ AG := List.mem_filter.mpr ⟨Q3_3i (List.mem_of_getElem? (i := 12) rfl), rfl⟩
theorem q_587 : Cond.instanceMethod yX0_isAnnounced ∈ AG := List.mem_filter.mpr ⟨Q3_3i (List.mem_of_getElem? (i := 13) rfl), rfl⟩
theorem q_588 : Cond.selects RX0 yX0_isAnnounced yX0_isAnnounced ∈ AG := List.mem_filter.mpr ⟨Q3_3i (List.mem_of_getElem? (i := 14) rfl), rfl⟩
theorem q_589 : Cond.code yX0_isAnnounced cX0_isAnnounced 2 (some .boolean) ∈ AG := List.mem_filter.mpr ⟨Q3_3i (List.mem_of_getElem? (i := 15) rfl), rfl⟩
theorem q_590 : Cond.methodLink RX5 87 yX0_announce ∈ AG := List.mem_filter.mpr ⟨Q3_4i (List.mem_of_getElem? (i := 0) rfl), rfl⟩
theorem q_591 : Cond.instanceMethod yX0_announce ∈ AG := List.mem_filter.mpr ⟨Q3_4i (List.mem_of_getElem? (i := 1) rfl), rfl⟩
theorem q_592 : Cond.selects RX0 yX0_announce yX0_announce ∈ AG := List.mem_filter.mpr ⟨Q3_4i (List.mem_of_getElem? (i := 2) rfl), rfl⟩
theorem q_593 : Cond.code yX0_announce cX0_announce 3 none ∈ AG := List.mem_filter.mpr ⟨Q3_4i (List.mem_of_getElem? (i := 3) rfl), rfl⟩
theorem q_594 : Cond.methodLink RL 117 yL_addServer ∈ AG := List.mem_filter.mpr ⟨Q3_4i (List.mem_of_getElem? (i := 4) rfl), rfl⟩
theorem q_595 : Cond.static yL_addServer ∈ AG := List.mem_filter.mpr ⟨Q3_4i (List.mem_of_getElem? (i := 5) rfl), rfl⟩
theorem q_596 : Cond.codeWith yL_addServer cL_addServer 7 (some .int) [(0, 14, 17, 13), (0, 14, 21, 19)] ∈ AG := List.mem_filter.mpr ⟨Q3_4i (List.mem_of_getElem? (i := 6) rfl), rfl⟩
theorem q_597 : Cond.methodLink RL 29 yX5_addServer ∈ AG := List.mem_filter.mpr ⟨Q3_4i (List.mem_of_getElem? (i := 7) rfl), rfl⟩
theorem q_598 : Cond.instanceMethod yX5_addServer ∈ AG := List.mem_filter.mpr ⟨Q3_4i (List.mem_of_getElem? (i := 8) rfl), rfl⟩
theorem q_599 : Cond.selects RX5 yX5_addServer yX5_addServer ∈ AG := List.mem_filter.mpr ⟨Q3_4i (List.mem_of_getElem? (i := 9) rfl), rfl⟩
theorem q_600 : Cond.code yX5_addServer cX5_addServer 6 (some .int) ∈ AG := List.mem_filter.mpr ⟨Q3_4i (List.mem_of_getElem? (i := 10) rfl), rfl⟩
theorem q_601 : Cond.methodLink RX5 95 yX5_isServerError ∈ AG := List.mem_filter.mpr ⟨Q3_4i (List.mem_of_getElem? (i := 11) rfl), rfl⟩
theorem q_602 : Cond.static yX5_isServerError ∈ AG := List.mem_filter.mpr ⟨Q3_4i (List.mem_of_getElem? (i := 12) rfl), rfl⟩
theorem q_603 : Cond.code yX5_isServerError cX5_isServerError 1 (some .boolean) ∈ AG := List.mem_filter.mpr ⟨Q3_4i (List.mem_of_getElem? (i := 13) rfl), rfl⟩
theorem q_604 : Cond.constant RX5 198 (-1000000) ∈ AG := List.mem_filter.mpr ⟨Q3_4i (List.mem_of_getElem? (i := 14) rfl), rfl⟩
theorem q_605 : Cond.constant RX5 98 (1000000) ∈ AG := List.mem_filter.mpr ⟨Q3_4i (List.mem_of_getElem? (i := 15) rfl), rfl⟩
theorem q_606 : Cond.methodLink RX5 107 yX4_settle ∈ AG := List.mem_filter.mpr ⟨Q3_5i (List.mem_of_getElem? (i := 0) rfl), rfl⟩
theorem q_607 : Cond.instanceMethod yX4_settle ∈ AG := List.mem_filter.mpr ⟨Q3_5i (List.mem_of_getElem? (i := 1) rfl), rfl⟩
theorem q_608 : Cond.selects RX4 yX4_settle yX4_settle ∈ AG := List.mem_filter.mpr ⟨Q3_5i (List.mem_of_getElem? (i := 2) rfl), rfl⟩
theorem q_609 : Cond.code yX4_settle cX4_settle 5 none ∈ AG := List.mem_filter.mpr ⟨Q3_5i (List.mem_of_getElem? (i := 3) rfl), rfl⟩
theorem q_610 : Cond.methodLink RX4 38 yX4_forget ∈ AG := List.mem_filter.mpr ⟨Q3_5i (List.mem_of_getElem? (i := 4) rfl), rfl⟩
theorem q_611 : Cond.instanceMethod yX4_forget ∈ AG := List.mem_filter.mpr ⟨Q3_5i (List.mem_of_getElem? (i := 5) rfl), rfl⟩
theorem q_612 : Cond.selects RX4 yX4_forget yX4_forget ∈ AG := List.mem_filter.mpr ⟨Q3_5i (List.mem_of_getElem? (i := 6) rfl), rfl⟩
theorem q_613 : Cond.code yX4_forget cX4_forget 1 none ∈ AG := List.mem_filter.mpr ⟨Q3_5i (List.mem_of_getElem? (i := 7) rfl), rfl⟩
theorem q_614 : Cond.methodLink RL 121 yL_setError ∈ AG := List.mem_filter.mpr ⟨Q3_5i (List.mem_of_getElem? (i := 8) rfl), rfl⟩
theorem q_615 : Cond.static yL_setError ∈ AG := List.mem_filter.mpr ⟨Q3_5i (List.mem_of_getElem? (i := 9) rfl), rfl⟩
theorem q_616 : Cond.codeWith yL_setError cL_setError 5 (some .int) [(0, 10, 13, 37), (0, 10, 17, 13)] ∈ AG := List.mem_filter.mpr ⟨Q3_5i (List.mem_of_getElem? (i := 10) rfl), rfl⟩
theorem q_617 : Cond.classLink RL 37 "java/lang/IndexOutOfBoundsException" ∈ AG := List.mem_filter.mpr ⟨Q3_5i (List.mem_of_getElem? (i := 11) rfl), rfl⟩
theorem q_618 : Cond.methodLink RL 33 yX5_setError ∈ AG := List.mem_filter.mpr ⟨Q3_5i (List.mem_of_getElem? (i := 12) rfl), rfl⟩
theorem q_619 : Cond.instanceMethod yX5_setError ∈ AG := List.mem_filter.mpr ⟨Q3_5i (List.mem_of_getElem? (i := 13) rfl), rfl⟩
theorem q_620 : Cond.selects RX5 yX5_setError yX5_setError ∈ AG := List.mem_filter.mpr ⟨Q3_5i (List.mem_of_getElem? (i := 14) rfl), rfl⟩
theorem q_621 : Cond.code yX5_setError cX5_setError 4 (some .int) ∈ AG := List.mem_filter.mpr ⟨Q3_5i (List.mem_of_getElem? (i := 15) rfl), rfl⟩
theorem q_622 : Cond.methodLink RX5 111 yX5_knownServer ∈ AG := List.mem_filter.mpr ⟨Q3_6i (List.mem_of_getElem? (i := 0) rfl), rfl⟩
theorem q_624 : Cond.instanceMethod yX5_knownServer ∈ AG := List.mem_filter.mpr ⟨Q3_6i (List.mem_of_getElem? (i := 2) rfl), rfl⟩
theorem q_625 : Cond.code yX5_knownServer cX5_knownServer 3 (some (.object "Clockhouse$Server")) ∈ AG := List.mem_filter.mpr ⟨Q3_6i (List.mem_of_getElem? (i := 3) rfl), rfl⟩
theorem q_626 : Cond.classLink RX5 209 "java/lang/IndexOutOfBoundsException" ∈ AG := List.mem_filter.mpr ⟨Q3_6i (List.mem_of_getElem? (i := 4) rfl), rfl⟩
theorem q_627 : Cond.instantiable "java/lang/IndexOutOfBoundsException" 6 ∈ AG := List.mem_filter.mpr ⟨Q3_6i (List.mem_of_getElem? (i := 5) rfl), rfl⟩
theorem q_629 : Cond.selects "java/lang/IndexOutOfBoundsException" ⟨"java/lang/Throwable", "fillInStackTrace", "(I)Ljava/lang/Throwable;"⟩ ⟨"java/lang/Throwable", "fillInStackTrace", "(I)Ljava/lang/Throwable;"⟩ ∈ AG := List.mem_filter.mpr ⟨Q3_6i (List.mem_of_getElem? (i := 7) rfl), rfl⟩
theorem q_635 : Cond.methodLink RX5 211 ⟨"java/lang/IndexOutOfBoundsException", "<init>", "()V"⟩ ∈ AG := List.mem_filter.mpr ⟨Q3_6i (List.mem_of_getElem? (i := 13) rfl), rfl⟩
theorem q_636 : Cond.instanceMethod ⟨"java/lang/IndexOutOfBoundsException", "<init>", "()V"⟩ ∈ AG := List.mem_filter.mpr ⟨Q3_6i (List.mem_of_getElem? (i := 14) rfl), rfl⟩
theorem q_637 : Cond.code ⟨"java/lang/IndexOutOfBoundsException", "<init>", "()V"⟩ prog_12_method_1_code 1 none ∈ AG := List.mem_filter.mpr ⟨Q3_6i (List.mem_of_getElem? (i := 15) rfl), rfl⟩
theorem q_638 : Cond.methodLink "java/lang/IndexOutOfBoundsException" 1 ⟨"java/lang/RuntimeException", "<init>", "()V"⟩ ∈ AG := List.mem_filter.mpr ⟨Q3_7i (List.mem_of_getElem? (i := 0) rfl), rfl⟩
theorem q_641 : Cond.methodLink RX5 114 yX4_changeError ∈ AG := List.mem_filter.mpr ⟨Q3_7i (List.mem_of_getElem? (i := 3) rfl), rfl⟩
theorem q_642 : Cond.instanceMethod yX4_changeError ∈ AG := List.mem_filter.mpr ⟨Q3_7i (List.mem_of_getElem? (i := 4) rfl), rfl⟩
theorem q_643 : Cond.selects RX4 yX4_changeError yX4_changeError ∈ AG := List.mem_filter.mpr ⟨Q3_7i (List.mem_of_getElem? (i := 5) rfl), rfl⟩
theorem q_644 : Cond.code yX4_changeError cX4_changeError 3 (some .int) ∈ AG := List.mem_filter.mpr ⟨Q3_7i (List.mem_of_getElem? (i := 6) rfl), rfl⟩
theorem q_645 : Cond.methodLink RL 125 yL_exchange ∈ AG := List.mem_filter.mpr ⟨Q3_7i (List.mem_of_getElem? (i := 7) rfl), rfl⟩
theorem q_646 : Cond.static yL_exchange ∈ AG := List.mem_filter.mpr ⟨Q3_7i (List.mem_of_getElem? (i := 8) rfl), rfl⟩
theorem q_647 : Cond.codeWith yL_exchange cL_exchange 7 (some .int) [(0, 13, 16, 37), (0, 13, 20, 13), (0, 13, 24, 19)] ∈ AG := List.mem_filter.mpr ⟨Q3_7i (List.mem_of_getElem? (i := 9) rfl), rfl⟩
theorem q_648 : Cond.methodLink RL 39 yX5_exchange ∈ AG := List.mem_filter.mpr ⟨Q3_7i (List.mem_of_getElem? (i := 10) rfl), rfl⟩
theorem q_649 : Cond.instanceMethod yX5_exchange ∈ AG := List.mem_filter.mpr ⟨Q3_7i (List.mem_of_getElem? (i := 11) rfl), rfl⟩
theorem q_650 : Cond.selects RX5 yX5_exchange yX5_exchange ∈ AG := List.mem_filter.mpr ⟨Q3_7i (List.mem_of_getElem? (i := 12) rfl), rfl⟩
theorem q_651 : Cond.code yX5_exchange cX5_exchange 6 (some .long) ∈ AG := List.mem_filter.mpr ⟨Q3_7i (List.mem_of_getElem? (i := 13) rfl), rfl⟩
theorem q_652 : Cond.constant RX5 117 (500000) ∈ AG := List.mem_filter.mpr ⟨Q3_7i (List.mem_of_getElem? (i := 14) rfl), rfl⟩
theorem q_653 : Cond.constant RX5 118 (100000) ∈ AG := List.mem_filter.mpr ⟨Q3_7i (List.mem_of_getElem? (i := 15) rfl), rfl⟩
theorem q_654 : Cond.methodLink RX5 119 yX5_takeSample ∈ AG := List.mem_filter.mpr ⟨Q3_8i (List.mem_of_getElem? (i := 0) rfl), rfl⟩
theorem q_656 : Cond.instanceMethod yX5_takeSample ∈ AG := List.mem_filter.mpr ⟨Q3_8i (List.mem_of_getElem? (i := 2) rfl), rfl⟩
theorem q_657 : Cond.code yX5_takeSample cX5_takeSample 17 (some .long) ∈ AG := List.mem_filter.mpr ⟨Q3_8i (List.mem_of_getElem? (i := 3) rfl), rfl⟩
theorem q_658 : Cond.methodLink RX5 212 yX4_readingAt ∈ AG := List.mem_filter.mpr ⟨Q3_8i (List.mem_of_getElem? (i := 4) rfl), rfl⟩
theorem q_659 : Cond.instanceMethod yX4_readingAt ∈ AG := List.mem_filter.mpr ⟨Q3_8i (List.mem_of_getElem? (i := 5) rfl), rfl⟩
theorem q_660 : Cond.selects RX4 yX4_readingAt yX4_readingAt ∈ AG := List.mem_filter.mpr ⟨Q3_8i (List.mem_of_getElem? (i := 6) rfl), rfl⟩
theorem q_661 : Cond.code yX4_readingAt cX4_readingAt 3 (some .long) ∈ AG := List.mem_filter.mpr ⟨Q3_8i (List.mem_of_getElem? (i := 7) rfl), rfl⟩
theorem q_662 : Cond.constantLong RX5 215 (2) ∈ AG := List.mem_filter.mpr ⟨Q3_8i (List.mem_of_getElem? (i := 8) rfl), rfl⟩
theorem q_663 : Cond.methodLink RX5 217 yJ9_floorDiv_f86c9 ∈ AG := List.mem_filter.mpr ⟨Q3_8i (List.mem_of_getElem? (i := 9) rfl), rfl⟩
theorem q_664 : Cond.methodLink RX5 223 Lib.MathLoose.max_long.x ∈ AG := List.mem_filter.mpr ⟨Q3_8i (List.mem_of_getElem? (i := 10) rfl), rfl⟩
theorem q_665 : Cond.methodLink RX5 226 yX4_keep ∈ AG := List.mem_filter.mpr ⟨Q3_8i (List.mem_of_getElem? (i := 11) rfl), rfl⟩
theorem q_666 : Cond.instanceMethod yX4_keep ∈ AG := List.mem_filter.mpr ⟨Q3_8i (List.mem_of_getElem? (i := 12) rfl), rfl⟩
theorem q_667 : Cond.selects RX4 yX4_keep yX4_keep ∈ AG := List.mem_filter.mpr ⟨Q3_8i (List.mem_of_getElem? (i := 13) rfl), rfl⟩
theorem q_668 : Cond.code yX4_keep cX4_keep 7 none ∈ AG := List.mem_filter.mpr ⟨Q3_8i (List.mem_of_getElem? (i := 14) rfl), rfl⟩
theorem q_669 : Cond.methodLink RX4 47 yX2_push ∈ AG := List.mem_filter.mpr ⟨Q3_8i (List.mem_of_getElem? (i := 15) rfl), rfl⟩
theorem q_670 : Cond.instanceMethod yX2_push ∈ AG := List.mem_filter.mpr ⟨Q3_9i (List.mem_of_getElem? (i := 0) rfl), rfl⟩
theorem q_671 : Cond.selects RX2 yX2_push yX2_push ∈ AG := List.mem_filter.mpr ⟨Q3_9i (List.mem_of_getElem? (i := 1) rfl), rfl⟩
theorem q_672 : Cond.code yX2_push cX2_push 4 none ∈ AG := List.mem_filter.mpr ⟨Q3_9i (List.mem_of_getElem? (i := 2) rfl), rfl⟩
theorem q_673 : Cond.methodLink RX2 13 yX2_get ∈ AG := List.mem_filter.mpr ⟨Q3_9i (List.mem_of_getElem? (i := 3) rfl), rfl⟩
theorem q_674 : Cond.methodLink RX2 17 yX2_put ∈ AG := List.mem_filter.mpr ⟨Q3_9i (List.mem_of_getElem? (i := 4) rfl), rfl⟩
theorem q_675 : Cond.methodLink RX4 51 Lib.Math.min.name ∈ AG := List.mem_filter.mpr ⟨Q3_9i (List.mem_of_getElem? (i := 5) rfl), rfl⟩
theorem q_676 : Cond.static Lib.Math.min.name ∈ AG := List.mem_filter.mpr ⟨Q3_9i (List.mem_of_getElem? (i := 6) rfl), rfl⟩
theorem q_677 : Cond.code Lib.Math.min.name Lib.Math.min.code 2 (some .int) ∈ AG := List.mem_filter.mpr ⟨Q3_9i (List.mem_of_getElem? (i := 7) rfl), rfl⟩
theorem q_678 : Cond.methodLink RX4 57 yX4_leastDelay ∈ AG := List.mem_filter.mpr ⟨Q3_9i (List.mem_of_getElem? (i := 8) rfl), rfl⟩
theorem q_680 : Cond.instanceMethod yX4_leastDelay ∈ AG := List.mem_filter.mpr ⟨Q3_9i (List.mem_of_getElem? (i := 10) rfl), rfl⟩
theorem q_681 : Cond.code yX4_leastDelay cX4_leastDelay 3 (some .int) ∈ AG := List.mem_filter.mpr ⟨Q3_9i (List.mem_of_getElem? (i := 11) rfl), rfl⟩
theorem q_682 : Cond.methodLink RL 132 yL_samples ∈ AG := List.mem_filter.mpr ⟨Q3_9i (List.mem_of_getElem? (i := 12) rfl), rfl⟩
theorem q_683 : Cond.static yL_samples ∈ AG := List.mem_filter.mpr ⟨Q3_9i (List.mem_of_getElem? (i := 13) rfl), rfl⟩
theorem q_684 : Cond.codeWith yL_samples cL_samples 4 (some .int) [(0, 9, 12, 37)] ∈ AG := List.mem_filter.mpr ⟨Q3_9i (List.mem_of_getElem? (i := 14) rfl), rfl⟩
theorem q_685 : Cond.methodLink RL 43 yX5_samples ∈ AG := List.mem_filter.mpr ⟨Q3_9i (List.mem_of_getElem? (i := 15) rfl), rfl⟩
theorem q_686 : Cond.instanceMethod yX5_samples ∈ AG := List.mem_filter.mpr ⟨Q3_10i (List.mem_of_getElem? (i := 0) rfl), rfl⟩
theorem q_687 : Cond.selects RX5 yX5_samples yX5_samples ∈ AG := List.mem_filter.mpr ⟨Q3_10i (List.mem_of_getElem? (i := 1) rfl), rfl⟩
theorem q_688 : Cond.code yX5_samples cX5_samples 2 (some .int) ∈ AG := List.mem_filter.mpr ⟨Q3_10i (List.mem_of_getElem? (i := 2) rfl), rfl⟩
theorem q_689 : Cond.methodLink RL 135 yL_offset ∈ AG := List.mem_filter.mpr ⟨Q3_10i (List.mem_of_getElem? (i := 3) rfl), rfl⟩
theorem q_690 : Cond.static yL_offset ∈ AG := List.mem_filter.mpr ⟨Q3_10i (List.mem_of_getElem? (i := 4) rfl), rfl⟩
theorem q_691 : Cond.codeWith yL_offset cL_offset 4 (some .int) [(0, 8, 11, 37), (0, 8, 14, 19)] ∈ AG := List.mem_filter.mpr ⟨Q3_10i (List.mem_of_getElem? (i := 5) rfl), rfl⟩
theorem q_692 : Cond.methodLink RL 46 yX5_offset ∈ AG := List.mem_filter.mpr ⟨Q3_10i (List.mem_of_getElem? (i := 6) rfl), rfl⟩
theorem q_693 : Cond.instanceMethod yX5_offset ∈ AG := List.mem_filter.mpr ⟨Q3_10i (List.mem_of_getElem? (i := 7) rfl), rfl⟩
theorem q_694 : Cond.selects RX5 yX5_offset yX5_offset ∈ AG := List.mem_filter.mpr ⟨Q3_10i (List.mem_of_getElem? (i := 8) rfl), rfl⟩
theorem q_695 : Cond.code yX5_offset cX5_offset 2 (some .long) ∈ AG := List.mem_filter.mpr ⟨Q3_10i (List.mem_of_getElem? (i := 9) rfl), rfl⟩
theorem q_696 : Cond.methodLink RX5 126 yX5_heardServer ∈ AG := List.mem_filter.mpr ⟨Q3_10i (List.mem_of_getElem? (i := 10) rfl), rfl⟩
theorem q_698 : Cond.instanceMethod yX5_heardServer ∈ AG := List.mem_filter.mpr ⟨Q3_10i (List.mem_of_getElem? (i := 12) rfl), rfl⟩
theorem q_699 : Cond.code yX5_heardServer cX5_heardServer 3 (some (.object "Clockhouse$Server")) ∈ AG := List.mem_filter.mpr ⟨Q3_10i (List.mem_of_getElem? (i := 13) rfl), rfl⟩
theorem q_700 : Cond.methodLink RX5 129 yX4_bestOffset ∈ AG := List.mem_filter.mpr ⟨Q3_10i (List.mem_of_getElem? (i := 14) rfl), rfl⟩
theorem q_701 : Cond.methodLink RL 138 yL_delay ∈ AG := List.mem_filter.mpr ⟨Q3_10i (List.mem_of_getElem? (i := 15) rfl), rfl⟩
theorem q_702 : Cond.static yL_delay ∈ AG := List.mem_filter.mpr ⟨Q3_11i (List.mem_of_getElem? (i := 0) rfl), rfl⟩
theorem q_703 : Cond.codeWith yL_delay cL_delay 4 (some .int) [(0, 8, 11, 37), (0, 8, 14, 19)] ∈ AG := List.mem_filter.mpr ⟨Q3_11i (List.mem_of_getElem? (i := 1) rfl), rfl⟩
theorem q_704 : Cond.methodLink RL 49 yX5_delay ∈ AG := List.mem_filter.mpr ⟨Q3_11i (List.mem_of_getElem? (i := 2) rfl), rfl⟩
theorem q_705 : Cond.instanceMethod yX5_delay ∈ AG := List.mem_filter.mpr ⟨Q3_11i (List.mem_of_getElem? (i := 3) rfl), rfl⟩
theorem q_706 : Cond.selects RX5 yX5_delay yX5_delay ∈ AG := List.mem_filter.mpr ⟨Q3_11i (List.mem_of_getElem? (i := 4) rfl), rfl⟩
theorem q_707 : Cond.code yX5_delay cX5_delay 2 (some .long) ∈ AG := List.mem_filter.mpr ⟨Q3_11i (List.mem_of_getElem? (i := 5) rfl), rfl⟩
theorem q_708 : Cond.methodLink RX5 132 yX4_bestDelay ∈ AG := List.mem_filter.mpr ⟨Q3_11i (List.mem_of_getElem? (i := 6) rfl), rfl⟩
theorem q_709 : Cond.methodLink RL 141 yL_jitter ∈ AG := List.mem_filter.mpr ⟨Q3_11i (List.mem_of_getElem? (i := 7) rfl), rfl⟩
theorem q_710 : Cond.static yL_jitter ∈ AG := List.mem_filter.mpr ⟨Q3_11i (List.mem_of_getElem? (i := 8) rfl), rfl⟩
theorem q_711 : Cond.codeWith yL_jitter cL_jitter 4 (some .int) [(0, 8, 11, 37), (0, 8, 14, 19)] ∈ AG := List.mem_filter.mpr ⟨Q3_11i (List.mem_of_getElem? (i := 9) rfl), rfl⟩
theorem q_712 : Cond.methodLink RL 52 yX5_jitter ∈ AG := List.mem_filter.mpr ⟨Q3_11i (List.mem_of_getElem? (i := 10) rfl), rfl⟩
theorem q_713 : Cond.instanceMethod yX5_jitter ∈ AG := List.mem_filter.mpr ⟨Q3_11i (List.mem_of_getElem? (i := 11) rfl), rfl⟩
theorem q_714 : Cond.selects RX5 yX5_jitter yX5_jitter ∈ AG := List.mem_filter.mpr ⟨Q3_11i (List.mem_of_getElem? (i := 12) rfl), rfl⟩
theorem q_715 : Cond.code yX5_jitter cX5_jitter 2 (some .long) ∈ AG := List.mem_filter.mpr ⟨Q3_11i (List.mem_of_getElem? (i := 13) rfl), rfl⟩
theorem q_716 : Cond.methodLink RX5 135 yX4_offsetJitter ∈ AG := List.mem_filter.mpr ⟨Q3_11i (List.mem_of_getElem? (i := 14) rfl), rfl⟩
theorem q_717 : Cond.methodLink RL 144 yL_distance ∈ AG := List.mem_filter.mpr ⟨Q3_11i (List.mem_of_getElem? (i := 15) rfl), rfl⟩
theorem q_718 : Cond.static yL_distance ∈ AG := List.mem_filter.mpr ⟨Q3_12i (List.mem_of_getElem? (i := 0) rfl), rfl⟩
theorem q_719 : Cond.codeWith yL_distance cL_distance 4 (some .int) [(0, 8, 11, 37), (0, 8, 14, 19)] ∈ AG := List.mem_filter.mpr ⟨Q3_12i (List.mem_of_getElem? (i := 1) rfl), rfl⟩
theorem q_720 : Cond.methodLink RL 55 yX5_distance ∈ AG := List.mem_filter.mpr ⟨Q3_12i (List.mem_of_getElem? (i := 2) rfl), rfl⟩
theorem q_721 : Cond.instanceMethod yX5_distance ∈ AG := List.mem_filter.mpr ⟨Q3_12i (List.mem_of_getElem? (i := 3) rfl), rfl⟩
theorem q_722 : Cond.selects RX5 yX5_distance yX5_distance ∈ AG := List.mem_filter.mpr ⟨Q3_12i (List.mem_of_getElem? (i := 4) rfl), rfl⟩
theorem q_723 : Cond.code yX5_distance cX5_distance 2 (some .long) ∈ AG := List.mem_filter.mpr ⟨Q3_12i (List.mem_of_getElem? (i := 5) rfl), rfl⟩
theorem q_724 : Cond.methodLink RX5 138 yX4_distanceAt ∈ AG := List.mem_filter.mpr ⟨Q3_12i (List.mem_of_getElem? (i := 6) rfl), rfl⟩
theorem q_725 : Cond.methodLink RL 160 yL_low ∈ AG := List.mem_filter.mpr ⟨Q3_12i (List.mem_of_getElem? (i := 7) rfl), rfl⟩
theorem q_726 : Cond.static yL_low ∈ AG := List.mem_filter.mpr ⟨Q3_12i (List.mem_of_getElem? (i := 8) rfl), rfl⟩
theorem q_727 : Cond.codeWith yL_low cL_low 3 (some .int) [(0, 7, 10, 19)] ∈ AG := List.mem_filter.mpr ⟨Q3_12i (List.mem_of_getElem? (i := 9) rfl), rfl⟩
theorem q_728 : Cond.methodLink RL 58 yX5_low ∈ AG := List.mem_filter.mpr ⟨Q3_12i (List.mem_of_getElem? (i := 10) rfl), rfl⟩
theorem q_729 : Cond.instanceMethod yX5_low ∈ AG := List.mem_filter.mpr ⟨Q3_12i (List.mem_of_getElem? (i := 11) rfl), rfl⟩
theorem q_730 : Cond.selects RX5 yX5_low yX5_low ∈ AG := List.mem_filter.mpr ⟨Q3_12i (List.mem_of_getElem? (i := 12) rfl), rfl⟩
theorem q_731 : Cond.code yX5_low cX5_low 1 (some .long) ∈ AG := List.mem_filter.mpr ⟨Q3_12i (List.mem_of_getElem? (i := 13) rfl), rfl⟩
theorem q_732 : Cond.methodLink RX5 154 yX5_selectFromSome ∈ AG := List.mem_filter.mpr ⟨Q3_12i (List.mem_of_getElem? (i := 14) rfl), rfl⟩
theorem q_734 : Cond.instanceMethod yX5_selectFromSome ∈ AG := List.mem_filter.mpr ⟨Q3_13i (List.mem_of_getElem? (i := 0) rfl), rfl⟩
theorem q_735 : Cond.code yX5_selectFromSome cX5_selectFromSome 1 none ∈ AG := List.mem_filter.mpr ⟨Q3_13i (List.mem_of_getElem? (i := 1) rfl), rfl⟩
theorem q_736 : Cond.methodLink RX5 241 yX3_isEmpty ∈ AG := List.mem_filter.mpr ⟨Q3_13i (List.mem_of_getElem? (i := 2) rfl), rfl⟩
theorem q_737 : Cond.instanceMethod yX3_isEmpty ∈ AG := List.mem_filter.mpr ⟨Q3_13i (List.mem_of_getElem? (i := 3) rfl), rfl⟩
theorem q_738 : Cond.selects RX3 yX3_isEmpty yX3_isEmpty ∈ AG := List.mem_filter.mpr ⟨Q3_13i (List.mem_of_getElem? (i := 4) rfl), rfl⟩
theorem q_739 : Cond.code yX3_isEmpty cX3_isEmpty 1 (some .boolean) ∈ AG := List.mem_filter.mpr ⟨Q3_13i (List.mem_of_getElem? (i := 5) rfl), rfl⟩
theorem q_740 : Cond.methodLink RX5 157 yX3_lowEnd ∈ AG := List.mem_filter.mpr ⟨Q3_13i (List.mem_of_getElem? (i := 6) rfl), rfl⟩
theorem q_741 : Cond.instanceMethod yX3_lowEnd ∈ AG := List.mem_filter.mpr ⟨Q3_13i (List.mem_of_getElem? (i := 7) rfl), rfl⟩
theorem q_742 : Cond.selects RX3 yX3_lowEnd yX3_lowEnd ∈ AG := List.mem_filter.mpr ⟨Q3_13i (List.mem_of_getElem? (i := 8) rfl), rfl⟩
theorem q_743 : Cond.code yX3_lowEnd cX3_lowEnd 1 (some .long) ∈ AG := List.mem_filter.mpr ⟨Q3_13i (List.mem_of_getElem? (i := 9) rfl), rfl⟩
theorem q_744 : Cond.methodLink RL 164 yL_high ∈ AG := List.mem_filter.mpr ⟨Q3_13i (List.mem_of_getElem? (i := 10) rfl), rfl⟩
theorem q_745 : Cond.static yL_high ∈ AG := List.mem_filter.mpr ⟨Q3_13i (List.mem_of_getElem? (i := 11) rfl), rfl⟩
theorem q_746 : Cond.codeWith yL_high cL_high 3 (some .int) [(0, 7, 10, 19)] ∈ AG := List.mem_filter.mpr ⟨Q3_13i (List.mem_of_getElem? (i := 12) rfl), rfl⟩
theorem q_747 : Cond.methodLink RL 62 yX5_high ∈ AG := List.mem_filter.mpr ⟨Q3_13i (List.mem_of_getElem? (i := 13) rfl), rfl⟩
theorem q_748 : Cond.instanceMethod yX5_high ∈ AG := List.mem_filter.mpr ⟨Q3_13i (List.mem_of_getElem? (i := 14) rfl), rfl⟩
theorem q_749 : Cond.selects RX5 yX5_high yX5_high ∈ AG := List.mem_filter.mpr ⟨Q3_13i (List.mem_of_getElem? (i := 15) rfl), rfl⟩
theorem q_750 : Cond.code yX5_high cX5_high 1 (some .long) ∈ AG := List.mem_filter.mpr ⟨Q3_14i (List.mem_of_getElem? (i := 0) rfl), rfl⟩
theorem q_751 : Cond.methodLink RX5 160 yX3_highEnd ∈ AG := List.mem_filter.mpr ⟨Q3_14i (List.mem_of_getElem? (i := 1) rfl), rfl⟩
theorem q_752 : Cond.instanceMethod yX3_highEnd ∈ AG := List.mem_filter.mpr ⟨Q3_14i (List.mem_of_getElem? (i := 2) rfl), rfl⟩
theorem q_753 : Cond.selects RX3 yX3_highEnd yX3_highEnd ∈ AG := List.mem_filter.mpr ⟨Q3_14i (List.mem_of_getElem? (i := 3) rfl), rfl⟩
theorem q_754 : Cond.code yX3_highEnd cX3_highEnd 1 (some .long) ∈ AG := List.mem_filter.mpr ⟨Q3_14i (List.mem_of_getElem? (i := 4) rfl), rfl⟩
theorem q_755 : Cond.methodLink RL 171 yL_combinedOffset ∈ AG := List.mem_filter.mpr ⟨Q3_14i (List.mem_of_getElem? (i := 5) rfl), rfl⟩
theorem q_756 : Cond.static yL_combinedOffset ∈ AG := List.mem_filter.mpr ⟨Q3_14i (List.mem_of_getElem? (i := 6) rfl), rfl⟩
theorem q_757 : Cond.codeWith yL_combinedOffset cL_combinedOffset 3 (some .int) [(0, 7, 10, 19)] ∈ AG := List.mem_filter.mpr ⟨Q3_14i (List.mem_of_getElem? (i := 7) rfl), rfl⟩
theorem q_758 : Cond.methodLink RL 65 yX5_combinedOffset ∈ AG := List.mem_filter.mpr ⟨Q3_14i (List.mem_of_getElem? (i := 8) rfl), rfl⟩
theorem q_759 : Cond.instanceMethod yX5_combinedOffset ∈ AG := List.mem_filter.mpr ⟨Q3_14i (List.mem_of_getElem? (i := 9) rfl), rfl⟩
theorem q_760 : Cond.selects RX5 yX5_combinedOffset yX5_combinedOffset ∈ AG := List.mem_filter.mpr ⟨Q3_14i (List.mem_of_getElem? (i := 10) rfl), rfl⟩
theorem q_761 : Cond.code yX5_combinedOffset cX5_combinedOffset 1 (some .long) ∈ AG := List.mem_filter.mpr ⟨Q3_14i (List.mem_of_getElem? (i := 11) rfl), rfl⟩
theorem q_762 : Cond.methodLink RX5 166 yX3_weightedOffset ∈ AG := List.mem_filter.mpr ⟨Q3_14i (List.mem_of_getElem? (i := 12) rfl), rfl⟩
theorem q_763 : Cond.instanceMethod yX3_weightedOffset ∈ AG := List.mem_filter.mpr ⟨Q3_14i (List.mem_of_getElem? (i := 13) rfl), rfl⟩
theorem q_764 : Cond.selects RX3 yX3_weightedOffset yX3_weightedOffset ∈ AG := List.mem_filter.mpr ⟨Q3_14i (List.mem_of_getElem? (i := 14) rfl), rfl⟩
theorem q_765 : Cond.code yX3_weightedOffset cX3_weightedOffset 6 (some .long) ∈ AG := List.mem_filter.mpr ⟨Q3_14i (List.mem_of_getElem? (i := 15) rfl), rfl⟩
theorem q_766 : Cond.methodLink RX3 107 yX3_weight ∈ AG := List.mem_filter.mpr ⟨Q4_0i (List.mem_of_getElem? (i := 0) rfl), rfl⟩
theorem q_768 : Cond.instanceMethod yX3_weight ∈ AG := List.mem_filter.mpr ⟨Q4_0i (List.mem_of_getElem? (i := 2) rfl), rfl⟩
theorem q_769 : Cond.code yX3_weight cX3_weight 4 (some .long) ∈ AG := List.mem_filter.mpr ⟨Q4_0i (List.mem_of_getElem? (i := 3) rfl), rfl⟩
theorem q_770 : Cond.constantLong RX3 114 (1000000) ∈ AG := List.mem_filter.mpr ⟨Q4_0i (List.mem_of_getElem? (i := 4) rfl), rfl⟩
theorem q_771 : Cond.methodLink RX3 116 Lib.MathLoose.max_long.x ∈ AG := List.mem_filter.mpr ⟨Q4_0i (List.mem_of_getElem? (i := 5) rfl), rfl⟩
theorem q_772 : Cond.methodLink RX3 110 yJ9_floorDiv_f86c9 ∈ AG := List.mem_filter.mpr ⟨Q4_0i (List.mem_of_getElem? (i := 6) rfl), rfl⟩
theorem q_773 : Cond.methodLink RL 178 yL_synchronize ∈ AG := List.mem_filter.mpr ⟨Q4_0i (List.mem_of_getElem? (i := 7) rfl), rfl⟩
theorem q_774 : Cond.static yL_synchronize ∈ AG := List.mem_filter.mpr ⟨Q4_0i (List.mem_of_getElem? (i := 8) rfl), rfl⟩
theorem q_775 : Cond.codeWith yL_synchronize cL_synchronize 3 (some .int) [(0, 8, 11, 19)] ∈ AG := List.mem_filter.mpr ⟨Q4_0i (List.mem_of_getElem? (i := 9) rfl), rfl⟩
theorem q_776 : Cond.methodLink RL 68 yX5_synchronize ∈ AG := List.mem_filter.mpr ⟨Q4_0i (List.mem_of_getElem? (i := 10) rfl), rfl⟩
theorem q_777 : Cond.instanceMethod yX5_synchronize ∈ AG := List.mem_filter.mpr ⟨Q4_0i (List.mem_of_getElem? (i := 11) rfl), rfl⟩
theorem q_778 : Cond.selects RX5 yX5_synchronize yX5_synchronize ∈ AG := List.mem_filter.mpr ⟨Q4_0i (List.mem_of_getElem? (i := 12) rfl), rfl⟩
theorem q_779 : Cond.code yX5_synchronize cX5_synchronize 4 (some .int) ∈ AG := List.mem_filter.mpr ⟨Q4_0i (List.mem_of_getElem? (i := 13) rfl), rfl⟩
theorem q_780 : Cond.methodLink RX5 172 yX5_correctRate ∈ AG := List.mem_filter.mpr ⟨Q4_0i (List.mem_of_getElem? (i := 14) rfl), rfl⟩
theorem q_782 : Cond.instanceMethod yX5_correctRate ∈ AG := List.mem_filter.mpr ⟨Q4_1i (List.mem_of_getElem? (i := 0) rfl), rfl⟩
theorem q_783 : Cond.code yX5_correctRate cX5_correctRate 7 none ∈ AG := List.mem_filter.mpr ⟨Q4_1i (List.mem_of_getElem? (i := 1) rfl), rfl⟩
theorem q_784 : Cond.constantLong RX5 244 (1000000) ∈ AG := List.mem_filter.mpr ⟨Q4_1i (List.mem_of_getElem? (i := 2) rfl), rfl⟩
theorem q_785 : Cond.constantLong RX5 246 (4) ∈ AG := List.mem_filter.mpr ⟨Q4_1i (List.mem_of_getElem? (i := 3) rfl), rfl⟩
theorem q_786 : Cond.methodLink RX5 248 yX1_addCorrection ∈ AG := List.mem_filter.mpr ⟨Q4_1i (List.mem_of_getElem? (i := 4) rfl), rfl⟩
theorem q_787 : Cond.instanceMethod yX1_addCorrection ∈ AG := List.mem_filter.mpr ⟨Q4_1i (List.mem_of_getElem? (i := 5) rfl), rfl⟩
theorem q_788 : Cond.selects RX1 yX1_addCorrection yX1_addCorrection ∈ AG := List.mem_filter.mpr ⟨Q4_1i (List.mem_of_getElem? (i := 6) rfl), rfl⟩
theorem q_789 : Cond.code yX1_addCorrection cX1_addCorrection 5 none ∈ AG := List.mem_filter.mpr ⟨Q4_1i (List.mem_of_getElem? (i := 7) rfl), rfl⟩
theorem q_790 : Cond.constantLong RX1 41 (-500) ∈ AG := List.mem_filter.mpr ⟨Q4_1i (List.mem_of_getElem? (i := 8) rfl), rfl⟩
theorem q_791 : Cond.methodLink RX5 176 yX5_correctTime ∈ AG := List.mem_filter.mpr ⟨Q4_1i (List.mem_of_getElem? (i := 9) rfl), rfl⟩
theorem q_793 : Cond.instanceMethod yX5_correctTime ∈ AG := List.mem_filter.mpr ⟨Q4_1i (List.mem_of_getElem? (i := 11) rfl), rfl⟩
theorem q_794 : Cond.code yX5_correctTime cX5_correctTime 3 (some .int) ∈ AG := List.mem_filter.mpr ⟨Q4_1i (List.mem_of_getElem? (i := 12) rfl), rfl⟩
theorem q_795 : Cond.constantLong RX5 251 (128000) ∈ AG := List.mem_filter.mpr ⟨Q4_1i (List.mem_of_getElem? (i := 13) rfl), rfl⟩
theorem q_796 : Cond.methodLink RX5 253 yX1_step ∈ AG := List.mem_filter.mpr ⟨Q4_1i (List.mem_of_getElem? (i := 14) rfl), rfl⟩
theorem q_797 : Cond.instanceMethod yX1_step ∈ AG := List.mem_filter.mpr ⟨Q4_1i (List.mem_of_getElem? (i := 15) rfl), rfl⟩
theorem q_798 : Cond.selects RX1 yX1_step yX1_step ∈ AG := List.mem_filter.mpr ⟨Q4_2i (List.mem_of_getElem? (i := 0) rfl), rfl⟩
theorem q_799 : Cond.code yX1_step cX1_step 3 none ∈ AG := List.mem_filter.mpr ⟨Q4_2i (List.mem_of_getElem? (i := 1) rfl), rfl⟩
theorem q_800 : Cond.methodLink RX5 256 yX1_slew ∈ AG := List.mem_filter.mpr ⟨Q4_2i (List.mem_of_getElem? (i := 2) rfl), rfl⟩
theorem q_801 : Cond.instanceMethod yX1_slew ∈ AG := List.mem_filter.mpr ⟨Q4_2i (List.mem_of_getElem? (i := 3) rfl), rfl⟩
theorem q_802 : Cond.selects RX1 yX1_slew yX1_slew ∈ AG := List.mem_filter.mpr ⟨Q4_2i (List.mem_of_getElem? (i := 4) rfl), rfl⟩
theorem q_803 : Cond.code yX1_slew cX1_slew 3 none ∈ AG := List.mem_filter.mpr ⟨Q4_2i (List.mem_of_getElem? (i := 5) rfl), rfl⟩
theorem q_804 : Cond.methodLink RX5 180 yX5_takeStratumOfPeer ∈ AG := List.mem_filter.mpr ⟨Q4_2i (List.mem_of_getElem? (i := 6) rfl), rfl⟩
theorem q_806 : Cond.instanceMethod yX5_takeStratumOfPeer ∈ AG := List.mem_filter.mpr ⟨Q4_2i (List.mem_of_getElem? (i := 8) rfl), rfl⟩
theorem q_807 : Cond.code yX5_takeStratumOfPeer cX5_takeStratumOfPeer 2 none ∈ AG := List.mem_filter.mpr ⟨Q4_2i (List.mem_of_getElem? (i := 9) rfl), rfl⟩
theorem q_808 : Cond.methodLink RX5 259 yX4_ownStratum ∈ AG := List.mem_filter.mpr ⟨Q4_2i (List.mem_of_getElem? (i := 10) rfl), rfl⟩
theorem q_809 : Cond.methodLink RX5 183 yX5_forgetSamples ∈ AG := List.mem_filter.mpr ⟨Q4_2i (List.mem_of_getElem? (i := 11) rfl), rfl⟩
theorem q_811 : Cond.instanceMethod yX5_forgetSamples ∈ AG := List.mem_filter.mpr ⟨Q4_2i (List.mem_of_getElem? (i := 13) rfl), rfl⟩
theorem q_812 : Cond.code yX5_forgetSamples cX5_forgetSamples 3 none ∈ AG := List.mem_filter.mpr ⟨Q4_2i (List.mem_of_getElem? (i := 14) rfl), rfl⟩
theorem q_813 : Cond.methodLink RX5 262 yX4_forget ∈ AG := List.mem_filter.mpr ⟨Q4_2i (List.mem_of_getElem? (i := 15) rfl), rfl⟩
theorem q_814 : Cond.classLink RL 73 RX6 ∈ AG := List.mem_filter.mpr ⟨Q4_3i (List.mem_of_getElem? (i := 0) rfl), rfl⟩
theorem q_815 : Cond.instantiable RX6 26 ∈ AG := List.mem_filter.mpr ⟨Q4_3i (List.mem_of_getElem? (i := 1) rfl), rfl⟩
theorem q_816 : Cond.methodLink RL 75 yX6_init ∈ AG := List.mem_filter.mpr ⟨Q4_3i (List.mem_of_getElem? (i := 2) rfl), rfl⟩
theorem q_817 : Cond.instanceMethod yX6_init ∈ AG := List.mem_filter.mpr ⟨Q4_3i (List.mem_of_getElem? (i := 3) rfl), rfl⟩
theorem q_818 : Cond.code yX6_init cX6_init 1 none ∈ AG := List.mem_filter.mpr ⟨Q4_3i (List.mem_of_getElem? (i := 4) rfl), rfl⟩
theorem q_819 : Cond.methodLink RX6 1 objectInit ∈ AG := List.mem_filter.mpr ⟨Q4_3i (List.mem_of_getElem? (i := 5) rfl), rfl⟩
theorem q_820 : Cond.fieldLink RX6 49 "ClockhouseModel" "refusal" "I" ∈ AG := List.mem_filter.mpr ⟨Q4_3i (List.mem_of_getElem? (i := 6) rfl), rfl⟩
theorem q_821 : Cond.fieldLink RX6 74 "ClockhouseModel" "now" "J" ∈ AG := List.mem_filter.mpr ⟨Q4_3i (List.mem_of_getElem? (i := 7) rfl), rfl⟩
theorem q_822 : Cond.fieldLink RX6 52 "ClockhouseModel" "picos" "J" ∈ AG := List.mem_filter.mpr ⟨Q4_3i (List.mem_of_getElem? (i := 8) rfl), rfl⟩
theorem q_823 : Cond.fieldLink RX6 77 "ClockhouseModel" "pending" "J" ∈ AG := List.mem_filter.mpr ⟨Q4_3i (List.mem_of_getElem? (i := 9) rfl), rfl⟩
theorem q_824 : Cond.fieldLink RX6 80 "ClockhouseModel" "drift" "I" ∈ AG := List.mem_filter.mpr ⟨Q4_3i (List.mem_of_getElem? (i := 10) rfl), rfl⟩
theorem q_825 : Cond.fieldLink RX6 83 "ClockhouseModel" "correction" "I" ∈ AG := List.mem_filter.mpr ⟨Q4_3i (List.mem_of_getElem? (i := 11) rfl), rfl⟩
theorem q_826 : Cond.fieldLink RX6 86 "ClockhouseModel" "steps" "I" ∈ AG := List.mem_filter.mpr ⟨Q4_3i (List.mem_of_getElem? (i := 12) rfl), rfl⟩
theorem q_827 : Cond.fieldLink RX6 89 "ClockhouseModel" "synchronizations" "I" ∈ AG := List.mem_filter.mpr ⟨Q4_3i (List.mem_of_getElem? (i := 13) rfl), rfl⟩
theorem q_828 : Cond.fieldLink RX6 7 "ClockhouseModel" "stratum" "I" ∈ AG := List.mem_filter.mpr ⟨Q4_3i (List.mem_of_getElem? (i := 14) rfl), rfl⟩
theorem q_829 : Cond.fieldLink RX6 92 "ClockhouseModel" "lastReading" "J" ∈ AG := List.mem_filter.mpr ⟨Q4_3i (List.mem_of_getElem? (i := 15) rfl), rfl⟩
theorem q_830 : Cond.fieldLink RX6 13 "ClockhouseModel" "leaps" "[I" ∈ AG := List.mem_filter.mpr ⟨Q4_4i (List.mem_of_getElem? (i := 0) rfl), rfl⟩
theorem q_831 : Cond.fieldLink RX6 95 "ClockhouseModel" "servers" "I" ∈ AG := List.mem_filter.mpr ⟨Q4_4i (List.mem_of_getElem? (i := 1) rfl), rfl⟩
theorem q_832 : Cond.fieldLink RX6 17 "ClockhouseModel" "strata" "[I" ∈ AG := List.mem_filter.mpr ⟨Q4_4i (List.mem_of_getElem? (i := 2) rfl), rfl⟩
theorem q_833 : Cond.fieldLink RX6 20 "ClockhouseModel" "errors" "[I" ∈ AG := List.mem_filter.mpr ⟨Q4_4i (List.mem_of_getElem? (i := 3) rfl), rfl⟩
theorem q_834 : Cond.fieldLink RX6 23 "ClockhouseModel" "rootDelays" "[I" ∈ AG := List.mem_filter.mpr ⟨Q4_4i (List.mem_of_getElem? (i := 4) rfl), rfl⟩
theorem q_835 : Cond.fieldLink RX6 26 "ClockhouseModel" "rootDispersions" "[I" ∈ AG := List.mem_filter.mpr ⟨Q4_4i (List.mem_of_getElem? (i := 5) rfl), rfl⟩
theorem q_836 : Cond.fieldLink RX6 29 "ClockhouseModel" "kept" "[I" ∈ AG := List.mem_filter.mpr ⟨Q4_4i (List.mem_of_getElem? (i := 6) rfl), rfl⟩
theorem q_837 : Cond.fieldLink RX6 32 "ClockhouseModel" "offsets" "[J" ∈ AG := List.mem_filter.mpr ⟨Q4_4i (List.mem_of_getElem? (i := 7) rfl), rfl⟩
theorem q_838 : Cond.fieldLink RX6 36 "ClockhouseModel" "delays" "[J" ∈ AG := List.mem_filter.mpr ⟨Q4_4i (List.mem_of_getElem? (i := 8) rfl), rfl⟩
theorem q_839 : Cond.fieldLink RX6 39 "ClockhouseModel" "times" "[J" ∈ AG := List.mem_filter.mpr ⟨Q4_4i (List.mem_of_getElem? (i := 9) rfl), rfl⟩
theorem q_840 : Cond.fieldLink RX6 178 "ClockhouseModel" "candidates" "I" ∈ AG := List.mem_filter.mpr ⟨Q4_4i (List.mem_of_getElem? (i := 10) rfl), rfl⟩
theorem q_841 : Cond.fieldLink RX6 181 "ClockhouseModel" "most" "I" ∈ AG := List.mem_filter.mpr ⟨Q4_4i (List.mem_of_getElem? (i := 11) rfl), rfl⟩
theorem q_842 : Cond.fieldLink RX6 188 "ClockhouseModel" "lowEnd" "J" ∈ AG := List.mem_filter.mpr ⟨Q4_4i (List.mem_of_getElem? (i := 12) rfl), rfl⟩
theorem q_843 : Cond.fieldLink RX6 191 "ClockhouseModel" "highEnd" "J" ∈ AG := List.mem_filter.mpr ⟨Q4_4i (List.mem_of_getElem? (i := 13) rfl), rfl⟩
theorem q_844 : Cond.fieldLink RX6 42 "ClockhouseModel" "agrees" "[Z" ∈ AG := List.mem_filter.mpr ⟨Q4_4i (List.mem_of_getElem? (i := 14) rfl), rfl⟩
theorem q_845 : Cond.fieldLink RX6 46 "ClockhouseModel" "survives" "[Z" ∈ AG := List.mem_filter.mpr ⟨Q4_4i (List.mem_of_getElem? (i := 15) rfl), rfl⟩
theorem q_899 : Cond.arrayClass .int ∈ AG := List.mem_filter.mpr ⟨Q4_8i (List.mem_of_getElem? (i := 5) rfl), rfl⟩
theorem q_900 : Cond.arrayClass .boolean ∈ AG := List.mem_filter.mpr ⟨Q4_8i (List.mem_of_getElem? (i := 6) rfl), rfl⟩
theorem q_901 : Cond.methodLink RL 81 yX6_restart ∈ AG := List.mem_filter.mpr ⟨Q4_8i (List.mem_of_getElem? (i := 7) rfl), rfl⟩
theorem q_902 : Cond.instanceMethod yX6_restart ∈ AG := List.mem_filter.mpr ⟨Q4_8i (List.mem_of_getElem? (i := 8) rfl), rfl⟩
theorem q_903 : Cond.selects RX6 yX6_restart yX6_restart ∈ AG := List.mem_filter.mpr ⟨Q4_8i (List.mem_of_getElem? (i := 9) rfl), rfl⟩
theorem q_904 : Cond.code yX6_restart cX6_restart 3 none ∈ AG := List.mem_filter.mpr ⟨Q4_8i (List.mem_of_getElem? (i := 10) rfl), rfl⟩
theorem q_905 : Cond.constantLong RX6 62 (-1000000000) ∈ AG := List.mem_filter.mpr ⟨Q4_8i (List.mem_of_getElem? (i := 11) rfl), rfl⟩
theorem q_906 : Cond.constantLong RX6 64 (1000000000) ∈ AG := List.mem_filter.mpr ⟨Q4_8i (List.mem_of_getElem? (i := 12) rfl), rfl⟩
theorem q_907 : Cond.methodLink RX6 66 yX6_in ∈ AG := List.mem_filter.mpr ⟨Q4_8i (List.mem_of_getElem? (i := 13) rfl), rfl⟩
theorem q_908 : Cond.static yX6_in ∈ AG := List.mem_filter.mpr ⟨Q4_8i (List.mem_of_getElem? (i := 14) rfl), rfl⟩
theorem q_909 : Cond.code yX6_in cX6_in 6 (some .boolean) ∈ AG := List.mem_filter.mpr ⟨Q4_8i (List.mem_of_getElem? (i := 15) rfl), rfl⟩
theorem q_910 : Cond.methodLink RX6 70 yX6_refused ∈ AG := List.mem_filter.mpr ⟨Q4_9i (List.mem_of_getElem? (i := 0) rfl), rfl⟩
theorem q_912 : Cond.instanceMethod yX6_refused ∈ AG := List.mem_filter.mpr ⟨Q4_9i (List.mem_of_getElem? (i := 2) rfl), rfl⟩
theorem q_913 : Cond.code yX6_refused cX6_refused 2 (some .boolean) ∈ AG := List.mem_filter.mpr ⟨Q4_9i (List.mem_of_getElem? (i := 3) rfl), rfl⟩
theorem q_914 : Cond.constantLong RX6 56 (1000000) ∈ AG := List.mem_filter.mpr ⟨Q4_9i (List.mem_of_getElem? (i := 4) rfl), rfl⟩
theorem q_915 : Cond.methodLink RL 85 yX6_pass ∈ AG := List.mem_filter.mpr ⟨Q4_9i (List.mem_of_getElem? (i := 5) rfl), rfl⟩
theorem q_916 : Cond.instanceMethod yX6_pass ∈ AG := List.mem_filter.mpr ⟨Q4_9i (List.mem_of_getElem? (i := 6) rfl), rfl⟩
theorem q_917 : Cond.selects RX6 yX6_pass yX6_pass ∈ AG := List.mem_filter.mpr ⟨Q4_9i (List.mem_of_getElem? (i := 7) rfl), rfl⟩
theorem q_918 : Cond.code yX6_pass cX6_pass 2 (some .long) ∈ AG := List.mem_filter.mpr ⟨Q4_9i (List.mem_of_getElem? (i := 8) rfl), rfl⟩
theorem q_919 : Cond.constantLong RX6 100 (1000000000000) ∈ AG := List.mem_filter.mpr ⟨Q4_9i (List.mem_of_getElem? (i := 9) rfl), rfl⟩
theorem q_920 : Cond.methodLink RX6 102 yX6_goOn ∈ AG := List.mem_filter.mpr ⟨Q4_9i (List.mem_of_getElem? (i := 10) rfl), rfl⟩
theorem q_922 : Cond.instanceMethod yX6_goOn ∈ AG := List.mem_filter.mpr ⟨Q4_9i (List.mem_of_getElem? (i := 12) rfl), rfl⟩
theorem q_923 : Cond.code yX6_goOn cX6_goOn 6 none ∈ AG := List.mem_filter.mpr ⟨Q4_9i (List.mem_of_getElem? (i := 13) rfl), rfl⟩
theorem q_924 : Cond.constantLong RX6 98 (500) ∈ AG := List.mem_filter.mpr ⟨Q4_9i (List.mem_of_getElem? (i := 14) rfl), rfl⟩
theorem q_925 : Cond.methodLink RX6 106 yX6_reading ∈ AG := List.mem_filter.mpr ⟨Q4_9i (List.mem_of_getElem? (i := 15) rfl), rfl⟩
theorem q_927 : Cond.instanceMethod yX6_reading ∈ AG := List.mem_filter.mpr ⟨Q4_10i (List.mem_of_getElem? (i := 1) rfl), rfl⟩
theorem q_928 : Cond.code yX6_reading cX6_reading 1 (some .long) ∈ AG := List.mem_filter.mpr ⟨Q4_10i (List.mem_of_getElem? (i := 2) rfl), rfl⟩
theorem q_929 : Cond.methodLink RX6 58 yX6_down ∈ AG := List.mem_filter.mpr ⟨Q4_10i (List.mem_of_getElem? (i := 3) rfl), rfl⟩
theorem q_930 : Cond.static yX6_down ∈ AG := List.mem_filter.mpr ⟨Q4_10i (List.mem_of_getElem? (i := 4) rfl), rfl⟩
theorem q_931 : Cond.code yX6_down cX6_down 6 (some .long) ∈ AG := List.mem_filter.mpr ⟨Q4_10i (List.mem_of_getElem? (i := 5) rfl), rfl⟩
theorem q_932 : Cond.methodLink RL 88 yX6_setDrift ∈ AG := List.mem_filter.mpr ⟨Q4_10i (List.mem_of_getElem? (i := 6) rfl), rfl⟩
theorem q_933 : Cond.instanceMethod yX6_setDrift ∈ AG := List.mem_filter.mpr ⟨Q4_10i (List.mem_of_getElem? (i := 7) rfl), rfl⟩
theorem q_934 : Cond.selects RX6 yX6_setDrift yX6_setDrift ∈ AG := List.mem_filter.mpr ⟨Q4_10i (List.mem_of_getElem? (i := 8) rfl), rfl⟩
theorem q_935 : Cond.code yX6_setDrift cX6_setDrift 3 (some .int) ∈ AG := List.mem_filter.mpr ⟨Q4_10i (List.mem_of_getElem? (i := 9) rfl), rfl⟩
theorem q_936 : Cond.constantLong RX6 110 (-300) ∈ AG := List.mem_filter.mpr ⟨Q4_10i (List.mem_of_getElem? (i := 10) rfl), rfl⟩
theorem q_937 : Cond.constantLong RX6 112 (300) ∈ AG := List.mem_filter.mpr ⟨Q4_10i (List.mem_of_getElem? (i := 11) rfl), rfl⟩
theorem q_938 : Cond.methodLink RL 92 yX6_trueTime ∈ AG := List.mem_filter.mpr ⟨Q4_10i (List.mem_of_getElem? (i := 12) rfl), rfl⟩
theorem q_939 : Cond.instanceMethod yX6_trueTime ∈ AG := List.mem_filter.mpr ⟨Q4_10i (List.mem_of_getElem? (i := 13) rfl), rfl⟩
theorem q_940 : Cond.selects RX6 yX6_trueTime yX6_trueTime ∈ AG := List.mem_filter.mpr ⟨Q4_10i (List.mem_of_getElem? (i := 14) rfl), rfl⟩
theorem q_941 : Cond.code yX6_trueTime cX6_trueTime 1 (some .long) ∈ AG := List.mem_filter.mpr ⟨Q4_10i (List.mem_of_getElem? (i := 15) rfl), rfl⟩
theorem q_942 : Cond.methodLink RX6 114 yX6_fineLong ∈ AG := List.mem_filter.mpr ⟨Q4_11i (List.mem_of_getElem? (i := 0) rfl), rfl⟩
theorem q_944 : Cond.instanceMethod yX6_fineLong ∈ AG := List.mem_filter.mpr ⟨Q4_11i (List.mem_of_getElem? (i := 2) rfl), rfl⟩
theorem q_945 : Cond.code yX6_fineLong cX6_fineLong 3 (some .long) ∈ AG := List.mem_filter.mpr ⟨Q4_11i (List.mem_of_getElem? (i := 3) rfl), rfl⟩
theorem q_946 : Cond.methodLink RL 96 yX6_clock ∈ AG := List.mem_filter.mpr ⟨Q4_11i (List.mem_of_getElem? (i := 4) rfl), rfl⟩
theorem q_947 : Cond.instanceMethod yX6_clock ∈ AG := List.mem_filter.mpr ⟨Q4_11i (List.mem_of_getElem? (i := 5) rfl), rfl⟩
theorem q_948 : Cond.selects RX6 yX6_clock yX6_clock ∈ AG := List.mem_filter.mpr ⟨Q4_11i (List.mem_of_getElem? (i := 6) rfl), rfl⟩
theorem q_949 : Cond.code yX6_clock cX6_clock 1 (some .long) ∈ AG := List.mem_filter.mpr ⟨Q4_11i (List.mem_of_getElem? (i := 7) rfl), rfl⟩
theorem q_950 : Cond.methodLink RL 100 yX6_error ∈ AG := List.mem_filter.mpr ⟨Q4_11i (List.mem_of_getElem? (i := 8) rfl), rfl⟩
theorem q_951 : Cond.instanceMethod yX6_error ∈ AG := List.mem_filter.mpr ⟨Q4_11i (List.mem_of_getElem? (i := 9) rfl), rfl⟩
theorem q_952 : Cond.selects RX6 yX6_error yX6_error ∈ AG := List.mem_filter.mpr ⟨Q4_11i (List.mem_of_getElem? (i := 10) rfl), rfl⟩
theorem q_953 : Cond.code yX6_error cX6_error 1 (some .long) ∈ AG := List.mem_filter.mpr ⟨Q4_11i (List.mem_of_getElem? (i := 11) rfl), rfl⟩
theorem q_954 : Cond.methodLink RL 104 yX6_pendingSlew ∈ AG := List.mem_filter.mpr ⟨Q4_11i (List.mem_of_getElem? (i := 12) rfl), rfl⟩
theorem q_955 : Cond.instanceMethod yX6_pendingSlew ∈ AG := List.mem_filter.mpr ⟨Q4_11i (List.mem_of_getElem? (i := 13) rfl), rfl⟩
theorem q_956 : Cond.selects RX6 yX6_pendingSlew yX6_pendingSlew ∈ AG := List.mem_filter.mpr ⟨Q4_11i (List.mem_of_getElem? (i := 14) rfl), rfl⟩
theorem q_957 : Cond.code yX6_pendingSlew cX6_pendingSlew 1 (some .long) ∈ AG := List.mem_filter.mpr ⟨Q4_11i (List.mem_of_getElem? (i := 15) rfl), rfl⟩
theorem q_958 : Cond.methodLink RL 108 yX6_correction ∈ AG := List.mem_filter.mpr ⟨Q4_12i (List.mem_of_getElem? (i := 0) rfl), rfl⟩
theorem q_959 : Cond.instanceMethod yX6_correction ∈ AG := List.mem_filter.mpr ⟨Q4_12i (List.mem_of_getElem? (i := 1) rfl), rfl⟩
theorem q_960 : Cond.selects RX6 yX6_correction yX6_correction ∈ AG := List.mem_filter.mpr ⟨Q4_12i (List.mem_of_getElem? (i := 2) rfl), rfl⟩
theorem q_961 : Cond.code yX6_correction cX6_correction 1 (some .int) ∈ AG := List.mem_filter.mpr ⟨Q4_12i (List.mem_of_getElem? (i := 3) rfl), rfl⟩
theorem q_962 : Cond.methodLink RX6 118 yX6_fine ∈ AG := List.mem_filter.mpr ⟨Q4_12i (List.mem_of_getElem? (i := 4) rfl), rfl⟩
theorem q_964 : Cond.instanceMethod yX6_fine ∈ AG := List.mem_filter.mpr ⟨Q4_12i (List.mem_of_getElem? (i := 6) rfl), rfl⟩
theorem q_965 : Cond.code yX6_fine cX6_fine 2 (some .int) ∈ AG := List.mem_filter.mpr ⟨Q4_12i (List.mem_of_getElem? (i := 7) rfl), rfl⟩
theorem q_966 : Cond.methodLink RL 112 yX6_announceLeap ∈ AG := List.mem_filter.mpr ⟨Q4_12i (List.mem_of_getElem? (i := 8) rfl), rfl⟩
theorem q_967 : Cond.instanceMethod yX6_announceLeap ∈ AG := List.mem_filter.mpr ⟨Q4_12i (List.mem_of_getElem? (i := 9) rfl), rfl⟩
theorem q_968 : Cond.selects RX6 yX6_announceLeap yX6_announceLeap ∈ AG := List.mem_filter.mpr ⟨Q4_12i (List.mem_of_getElem? (i := 10) rfl), rfl⟩
theorem q_969 : Cond.code yX6_announceLeap cX6_announceLeap 4 (some .long) ∈ AG := List.mem_filter.mpr ⟨Q4_12i (List.mem_of_getElem? (i := 11) rfl), rfl⟩
theorem q_970 : Cond.constantLong RX6 126 (20) ∈ AG := List.mem_filter.mpr ⟨Q4_12i (List.mem_of_getElem? (i := 12) rfl), rfl⟩
theorem q_971 : Cond.methodLink RX6 128 yX6_smearFrom ∈ AG := List.mem_filter.mpr ⟨Q4_12i (List.mem_of_getElem? (i := 13) rfl), rfl⟩
theorem q_972 : Cond.static yX6_smearFrom ∈ AG := List.mem_filter.mpr ⟨Q4_12i (List.mem_of_getElem? (i := 14) rfl), rfl⟩
theorem q_973 : Cond.code yX6_smearFrom cX6_smearFrom 1 (some .long) ∈ AG := List.mem_filter.mpr ⟨Q4_12i (List.mem_of_getElem? (i := 15) rfl), rfl⟩
theorem q_974 : Cond.constantLong RX6 122 (86400000000) ∈ AG := List.mem_filter.mpr ⟨Q4_13i (List.mem_of_getElem? (i := 0) rfl), rfl⟩
theorem q_975 : Cond.constantLong RX6 124 (20000000000) ∈ AG := List.mem_filter.mpr ⟨Q4_13i (List.mem_of_getElem? (i := 1) rfl), rfl⟩
theorem q_976 : Cond.methodLink RL 116 yX6_civil ∈ AG := List.mem_filter.mpr ⟨Q4_13i (List.mem_of_getElem? (i := 2) rfl), rfl⟩
theorem q_977 : Cond.instanceMethod yX6_civil ∈ AG := List.mem_filter.mpr ⟨Q4_13i (List.mem_of_getElem? (i := 3) rfl), rfl⟩
theorem q_978 : Cond.selects RX6 yX6_civil yX6_civil ∈ AG := List.mem_filter.mpr ⟨Q4_13i (List.mem_of_getElem? (i := 4) rfl), rfl⟩
theorem q_979 : Cond.code yX6_civil cX6_civil 8 (some .long) ∈ AG := List.mem_filter.mpr ⟨Q4_13i (List.mem_of_getElem? (i := 5) rfl), rfl⟩
theorem q_980 : Cond.constantLong RX6 132 (20000) ∈ AG := List.mem_filter.mpr ⟨Q4_13i (List.mem_of_getElem? (i := 6) rfl), rfl⟩
theorem q_981 : Cond.methodLink RL 120 yX6_addServer ∈ AG := List.mem_filter.mpr ⟨Q4_13i (List.mem_of_getElem? (i := 7) rfl), rfl⟩
theorem q_982 : Cond.instanceMethod yX6_addServer ∈ AG := List.mem_filter.mpr ⟨Q4_13i (List.mem_of_getElem? (i := 8) rfl), rfl⟩
theorem q_983 : Cond.selects RX6 yX6_addServer yX6_addServer ∈ AG := List.mem_filter.mpr ⟨Q4_13i (List.mem_of_getElem? (i := 9) rfl), rfl⟩
theorem q_984 : Cond.code yX6_addServer cX6_addServer 6 (some .int) ∈ AG := List.mem_filter.mpr ⟨Q4_13i (List.mem_of_getElem? (i := 10) rfl), rfl⟩
theorem q_985 : Cond.constantLong RX6 134 (14) ∈ AG := List.mem_filter.mpr ⟨Q4_13i (List.mem_of_getElem? (i := 11) rfl), rfl⟩
theorem q_986 : Cond.constantLong RX6 136 (-1000000) ∈ AG := List.mem_filter.mpr ⟨Q4_13i (List.mem_of_getElem? (i := 12) rfl), rfl⟩
theorem q_987 : Cond.methodLink RL 124 yX6_setError ∈ AG := List.mem_filter.mpr ⟨Q4_13i (List.mem_of_getElem? (i := 13) rfl), rfl⟩
theorem q_988 : Cond.instanceMethod yX6_setError ∈ AG := List.mem_filter.mpr ⟨Q4_13i (List.mem_of_getElem? (i := 14) rfl), rfl⟩
theorem q_989 : Cond.selects RX6 yX6_setError yX6_setError ∈ AG := List.mem_filter.mpr ⟨Q4_13i (List.mem_of_getElem? (i := 15) rfl), rfl⟩
theorem q_990 : Cond.code yX6_setError cX6_setError 4 (some .int) ∈ AG := List.mem_filter.mpr ⟨Q4_14i (List.mem_of_getElem? (i := 0) rfl), rfl⟩
theorem q_991 : Cond.methodLink RX6 138 yX6_isServer ∈ AG := List.mem_filter.mpr ⟨Q4_14i (List.mem_of_getElem? (i := 1) rfl), rfl⟩
theorem q_993 : Cond.instanceMethod yX6_isServer ∈ AG := List.mem_filter.mpr ⟨Q4_14i (List.mem_of_getElem? (i := 3) rfl), rfl⟩
theorem q_994 : Cond.code yX6_isServer cX6_isServer 2 (some .boolean) ∈ AG := List.mem_filter.mpr ⟨Q4_14i (List.mem_of_getElem? (i := 4) rfl), rfl⟩
theorem q_995 : Cond.methodLink RL 127 yX6_exchange ∈ AG := List.mem_filter.mpr ⟨Q4_14i (List.mem_of_getElem? (i := 5) rfl), rfl⟩
theorem q_996 : Cond.instanceMethod yX6_exchange ∈ AG := List.mem_filter.mpr ⟨Q4_14i (List.mem_of_getElem? (i := 6) rfl), rfl⟩
theorem q_997 : Cond.selects RX6 yX6_exchange yX6_exchange ∈ AG := List.mem_filter.mpr ⟨Q4_14i (List.mem_of_getElem? (i := 7) rfl), rfl⟩
theorem q_998 : Cond.code yX6_exchange cX6_exchange 16 (some .long) ∈ AG := List.mem_filter.mpr ⟨Q4_14i (List.mem_of_getElem? (i := 8) rfl), rfl⟩
theorem q_999 : Cond.constantLong RX6 141 (500000) ∈ AG := List.mem_filter.mpr ⟨Q4_14i (List.mem_of_getElem? (i := 9) rfl), rfl⟩
theorem q_1000 : Cond.constantLong RX6 143 (100000) ∈ AG := List.mem_filter.mpr ⟨Q4_14i (List.mem_of_getElem? (i := 10) rfl), rfl⟩
theorem q_1001 : Cond.constantLong RX6 145 (2) ∈ AG := List.mem_filter.mpr ⟨Q4_14i (List.mem_of_getElem? (i := 11) rfl), rfl⟩
theorem q_1002 : Cond.methodLink RX6 147 yX6_keep ∈ AG := List.mem_filter.mpr ⟨Q4_14i (List.mem_of_getElem? (i := 12) rfl), rfl⟩
theorem q_1004 : Cond.instanceMethod yX6_keep ∈ AG := List.mem_filter.mpr ⟨Q4_14i (List.mem_of_getElem? (i := 14) rfl), rfl⟩
theorem q_1005 : Cond.code yX6_keep cX6_keep 10 none ∈ AG := List.mem_filter.mpr ⟨Q4_14i (List.mem_of_getElem? (i := 15) rfl), rfl⟩
theorem q_1006 : Cond.methodLink RL 131 yX6_servers ∈ AG := List.mem_filter.mpr ⟨Q5_0i (List.mem_of_getElem? (i := 0) rfl), rfl⟩
theorem q_1007 : Cond.instanceMethod yX6_servers ∈ AG := List.mem_filter.mpr ⟨Q5_0i (List.mem_of_getElem? (i := 1) rfl), rfl⟩
theorem q_1008 : Cond.selects RX6 yX6_servers yX6_servers ∈ AG := List.mem_filter.mpr ⟨Q5_0i (List.mem_of_getElem? (i := 2) rfl), rfl⟩
theorem q_1009 : Cond.code yX6_servers cX6_servers 1 (some .int) ∈ AG := List.mem_filter.mpr ⟨Q5_0i (List.mem_of_getElem? (i := 3) rfl), rfl⟩
theorem q_1010 : Cond.methodLink RL 134 yX6_samples ∈ AG := List.mem_filter.mpr ⟨Q5_0i (List.mem_of_getElem? (i := 4) rfl), rfl⟩
theorem q_1011 : Cond.instanceMethod yX6_samples ∈ AG := List.mem_filter.mpr ⟨Q5_0i (List.mem_of_getElem? (i := 5) rfl), rfl⟩
theorem q_1012 : Cond.selects RX6 yX6_samples yX6_samples ∈ AG := List.mem_filter.mpr ⟨Q5_0i (List.mem_of_getElem? (i := 6) rfl), rfl⟩
theorem q_1013 : Cond.code yX6_samples cX6_samples 2 (some .int) ∈ AG := List.mem_filter.mpr ⟨Q5_0i (List.mem_of_getElem? (i := 7) rfl), rfl⟩
theorem q_1014 : Cond.methodLink RL 137 yX6_offset ∈ AG := List.mem_filter.mpr ⟨Q5_0i (List.mem_of_getElem? (i := 8) rfl), rfl⟩
theorem q_1015 : Cond.instanceMethod yX6_offset ∈ AG := List.mem_filter.mpr ⟨Q5_0i (List.mem_of_getElem? (i := 9) rfl), rfl⟩
theorem q_1016 : Cond.selects RX6 yX6_offset yX6_offset ∈ AG := List.mem_filter.mpr ⟨Q5_0i (List.mem_of_getElem? (i := 10) rfl), rfl⟩
theorem q_1017 : Cond.code yX6_offset cX6_offset 2 (some .long) ∈ AG := List.mem_filter.mpr ⟨Q5_0i (List.mem_of_getElem? (i := 11) rfl), rfl⟩
theorem q_1018 : Cond.methodLink RX6 162 yX6_noSample ∈ AG := List.mem_filter.mpr ⟨Q5_0i (List.mem_of_getElem? (i := 12) rfl), rfl⟩
theorem q_1020 : Cond.instanceMethod yX6_noSample ∈ AG := List.mem_filter.mpr ⟨Q5_0i (List.mem_of_getElem? (i := 14) rfl), rfl⟩
theorem q_1021 : Cond.code yX6_noSample cX6_noSample 2 (some .boolean) ∈ AG := List.mem_filter.mpr ⟨Q5_0i (List.mem_of_getElem? (i := 15) rfl), rfl⟩
theorem q_1022 : Cond.methodLink RX6 151 yX6_best ∈ AG := List.mem_filter.mpr ⟨Q5_1i (List.mem_of_getElem? (i := 0) rfl), rfl⟩
theorem q_1024 : Cond.instanceMethod yX6_best ∈ AG := List.mem_filter.mpr ⟨Q5_1i (List.mem_of_getElem? (i := 2) rfl), rfl⟩
theorem q_1025 : Cond.code yX6_best cX6_best 4 (some .int) ∈ AG := List.mem_filter.mpr ⟨Q5_1i (List.mem_of_getElem? (i := 3) rfl), rfl⟩
theorem q_1026 : Cond.methodLink RL 140 yX6_delay ∈ AG := List.mem_filter.mpr ⟨Q5_1i (List.mem_of_getElem? (i := 4) rfl), rfl⟩
theorem q_1027 : Cond.instanceMethod yX6_delay ∈ AG := List.mem_filter.mpr ⟨Q5_1i (List.mem_of_getElem? (i := 5) rfl), rfl⟩
theorem q_1028 : Cond.selects RX6 yX6_delay yX6_delay ∈ AG := List.mem_filter.mpr ⟨Q5_1i (List.mem_of_getElem? (i := 6) rfl), rfl⟩
theorem q_1029 : Cond.code yX6_delay cX6_delay 2 (some .long) ∈ AG := List.mem_filter.mpr ⟨Q5_1i (List.mem_of_getElem? (i := 7) rfl), rfl⟩
theorem q_1030 : Cond.methodLink RL 143 yX6_jitter ∈ AG := List.mem_filter.mpr ⟨Q5_1i (List.mem_of_getElem? (i := 8) rfl), rfl⟩
theorem q_1031 : Cond.instanceMethod yX6_jitter ∈ AG := List.mem_filter.mpr ⟨Q5_1i (List.mem_of_getElem? (i := 9) rfl), rfl⟩
theorem q_1032 : Cond.selects RX6 yX6_jitter yX6_jitter ∈ AG := List.mem_filter.mpr ⟨Q5_1i (List.mem_of_getElem? (i := 10) rfl), rfl⟩
theorem q_1033 : Cond.code yX6_jitter cX6_jitter 2 (some .long) ∈ AG := List.mem_filter.mpr ⟨Q5_1i (List.mem_of_getElem? (i := 11) rfl), rfl⟩
theorem q_1034 : Cond.methodLink RX6 157 yX6_jitterOf ∈ AG := List.mem_filter.mpr ⟨Q5_1i (List.mem_of_getElem? (i := 12) rfl), rfl⟩
theorem q_1036 : Cond.instanceMethod yX6_jitterOf ∈ AG := List.mem_filter.mpr ⟨Q5_1i (List.mem_of_getElem? (i := 14) rfl), rfl⟩
theorem q_1037 : Cond.code yX6_jitterOf cX6_jitterOf 5 (some .long) ∈ AG := List.mem_filter.mpr ⟨Q5_1i (List.mem_of_getElem? (i := 15) rfl), rfl⟩
theorem q_1038 : Cond.methodLink RX6 154 yX6_size ∈ AG := List.mem_filter.mpr ⟨Q5_2i (List.mem_of_getElem? (i := 0) rfl), rfl⟩
theorem q_1039 : Cond.static yX6_size ∈ AG := List.mem_filter.mpr ⟨Q5_2i (List.mem_of_getElem? (i := 1) rfl), rfl⟩
theorem q_1040 : Cond.code yX6_size cX6_size 2 (some .long) ∈ AG := List.mem_filter.mpr ⟨Q5_2i (List.mem_of_getElem? (i := 2) rfl), rfl⟩
theorem q_1041 : Cond.methodLink RL 146 yX6_distance ∈ AG := List.mem_filter.mpr ⟨Q5_2i (List.mem_of_getElem? (i := 3) rfl), rfl⟩
theorem q_1042 : Cond.instanceMethod yX6_distance ∈ AG := List.mem_filter.mpr ⟨Q5_2i (List.mem_of_getElem? (i := 4) rfl), rfl⟩
theorem q_1043 : Cond.selects RX6 yX6_distance yX6_distance ∈ AG := List.mem_filter.mpr ⟨Q5_2i (List.mem_of_getElem? (i := 5) rfl), rfl⟩
theorem q_1044 : Cond.code yX6_distance cX6_distance 2 (some .long) ∈ AG := List.mem_filter.mpr ⟨Q5_2i (List.mem_of_getElem? (i := 6) rfl), rfl⟩
theorem q_1045 : Cond.methodLink RX6 165 yX6_distanceOf ∈ AG := List.mem_filter.mpr ⟨Q5_2i (List.mem_of_getElem? (i := 7) rfl), rfl⟩
theorem q_1047 : Cond.instanceMethod yX6_distanceOf ∈ AG := List.mem_filter.mpr ⟨Q5_2i (List.mem_of_getElem? (i := 9) rfl), rfl⟩
theorem q_1048 : Cond.code yX6_distanceOf cX6_distanceOf 3 (some .long) ∈ AG := List.mem_filter.mpr ⟨Q5_2i (List.mem_of_getElem? (i := 10) rfl), rfl⟩
theorem q_1049 : Cond.constantLong RX6 160 (15) ∈ AG := List.mem_filter.mpr ⟨Q5_2i (List.mem_of_getElem? (i := 11) rfl), rfl⟩
theorem q_1050 : Cond.methodLink RL 150 yX6_agreement ∈ AG := List.mem_filter.mpr ⟨Q5_2i (List.mem_of_getElem? (i := 12) rfl), rfl⟩
theorem q_1051 : Cond.instanceMethod yX6_agreement ∈ AG := List.mem_filter.mpr ⟨Q5_2i (List.mem_of_getElem? (i := 13) rfl), rfl⟩
theorem q_1052 : Cond.selects RX6 yX6_agreement yX6_agreement ∈ AG := List.mem_filter.mpr ⟨Q5_2i (List.mem_of_getElem? (i := 14) rfl), rfl⟩
theorem q_1053 : Cond.code yX6_agreement cX6_agreement 1 (some .int) ∈ AG := List.mem_filter.mpr ⟨Q5_2i (List.mem_of_getElem? (i := 15) rfl), rfl⟩
theorem q_1054 : Cond.methodLink RX6 201 yX6_intersect ∈ AG := List.mem_filter.mpr ⟨Q5_3i (List.mem_of_getElem? (i := 0) rfl), rfl⟩
theorem q_1056 : Cond.instanceMethod yX6_intersect ∈ AG := List.mem_filter.mpr ⟨Q5_3i (List.mem_of_getElem? (i := 2) rfl), rfl⟩
theorem q_1057 : Cond.code yX6_intersect cX6_intersect 4 none ∈ AG := List.mem_filter.mpr ⟨Q5_3i (List.mem_of_getElem? (i := 3) rfl), rfl⟩
theorem q_1058 : Cond.methodLink RX6 168 yX6_from ∈ AG := List.mem_filter.mpr ⟨Q5_3i (List.mem_of_getElem? (i := 4) rfl), rfl⟩
theorem q_1060 : Cond.instanceMethod yX6_from ∈ AG := List.mem_filter.mpr ⟨Q5_3i (List.mem_of_getElem? (i := 6) rfl), rfl⟩
theorem q_1061 : Cond.code yX6_from cX6_from 2 (some .long) ∈ AG := List.mem_filter.mpr ⟨Q5_3i (List.mem_of_getElem? (i := 7) rfl), rfl⟩
theorem q_1062 : Cond.methodLink RX6 184 yX6_covers ∈ AG := List.mem_filter.mpr ⟨Q5_3i (List.mem_of_getElem? (i := 8) rfl), rfl⟩
theorem q_1064 : Cond.instanceMethod yX6_covers ∈ AG := List.mem_filter.mpr ⟨Q5_3i (List.mem_of_getElem? (i := 10) rfl), rfl⟩
theorem q_1065 : Cond.code yX6_covers cX6_covers 5 (some .int) ∈ AG := List.mem_filter.mpr ⟨Q5_3i (List.mem_of_getElem? (i := 11) rfl), rfl⟩
theorem q_1066 : Cond.methodLink RX6 174 yX6_has ∈ AG := List.mem_filter.mpr ⟨Q5_3i (List.mem_of_getElem? (i := 12) rfl), rfl⟩
theorem q_1068 : Cond.instanceMethod yX6_has ∈ AG := List.mem_filter.mpr ⟨Q5_3i (List.mem_of_getElem? (i := 14) rfl), rfl⟩
theorem q_1069 : Cond.code yX6_has cX6_has 4 (some .boolean) ∈ AG := List.mem_filter.mpr ⟨Q5_3i (List.mem_of_getElem? (i := 15) rfl), rfl⟩
theorem q_1070 : Cond.methodLink RX6 171 yX6_to ∈ AG := List.mem_filter.mpr ⟨Q5_4i (List.mem_of_getElem? (i := 0) rfl), rfl⟩
theorem q_1072 : Cond.instanceMethod yX6_to ∈ AG := List.mem_filter.mpr ⟨Q5_4i (List.mem_of_getElem? (i := 2) rfl), rfl⟩
theorem q_1073 : Cond.code yX6_to cX6_to 2 (some .long) ∈ AG := List.mem_filter.mpr ⟨Q5_4i (List.mem_of_getElem? (i := 3) rfl), rfl⟩
theorem q_1074 : Cond.methodLink RL 155 yX6_hasMajority ∈ AG := List.mem_filter.mpr ⟨Q5_4i (List.mem_of_getElem? (i := 4) rfl), rfl⟩
theorem q_1075 : Cond.instanceMethod yX6_hasMajority ∈ AG := List.mem_filter.mpr ⟨Q5_4i (List.mem_of_getElem? (i := 5) rfl), rfl⟩
theorem q_1076 : Cond.selects RX6 yX6_hasMajority yX6_hasMajority ∈ AG := List.mem_filter.mpr ⟨Q5_4i (List.mem_of_getElem? (i := 6) rfl), rfl⟩
theorem q_1077 : Cond.code yX6_hasMajority cX6_hasMajority 1 (some .boolean) ∈ AG := List.mem_filter.mpr ⟨Q5_4i (List.mem_of_getElem? (i := 7) rfl), rfl⟩
theorem q_1078 : Cond.methodLink RL 159 yX6_agreeing ∈ AG := List.mem_filter.mpr ⟨Q5_4i (List.mem_of_getElem? (i := 8) rfl), rfl⟩
theorem q_1079 : Cond.instanceMethod yX6_agreeing ∈ AG := List.mem_filter.mpr ⟨Q5_4i (List.mem_of_getElem? (i := 9) rfl), rfl⟩
theorem q_1080 : Cond.selects RX6 yX6_agreeing yX6_agreeing ∈ AG := List.mem_filter.mpr ⟨Q5_4i (List.mem_of_getElem? (i := 10) rfl), rfl⟩
theorem q_1081 : Cond.code yX6_agreeing cX6_agreeing 1 (some .int) ∈ AG := List.mem_filter.mpr ⟨Q5_4i (List.mem_of_getElem? (i := 11) rfl), rfl⟩
theorem q_1082 : Cond.methodLink RX6 208 yX6_set ∈ AG := List.mem_filter.mpr ⟨Q5_4i (List.mem_of_getElem? (i := 12) rfl), rfl⟩
theorem q_1083 : Cond.static yX6_set ∈ AG := List.mem_filter.mpr ⟨Q5_4i (List.mem_of_getElem? (i := 13) rfl), rfl⟩
theorem q_1084 : Cond.code yX6_set cX6_set 3 (some .int) ∈ AG := List.mem_filter.mpr ⟨Q5_4i (List.mem_of_getElem? (i := 14) rfl), rfl⟩
theorem q_1085 : Cond.methodLink RL 163 yX6_low ∈ AG := List.mem_filter.mpr ⟨Q5_4i (List.mem_of_getElem? (i := 15) rfl), rfl⟩
theorem q_1086 : Cond.instanceMethod yX6_low ∈ AG := List.mem_filter.mpr ⟨Q5_5i (List.mem_of_getElem? (i := 0) rfl), rfl⟩
theorem q_1087 : Cond.selects RX6 yX6_low yX6_low ∈ AG := List.mem_filter.mpr ⟨Q5_5i (List.mem_of_getElem? (i := 1) rfl), rfl⟩
theorem q_1088 : Cond.code yX6_low cX6_low 1 (some .long) ∈ AG := List.mem_filter.mpr ⟨Q5_5i (List.mem_of_getElem? (i := 2) rfl), rfl⟩
theorem q_1089 : Cond.methodLink RL 166 yX6_high ∈ AG := List.mem_filter.mpr ⟨Q5_5i (List.mem_of_getElem? (i := 3) rfl), rfl⟩
theorem q_1090 : Cond.instanceMethod yX6_high ∈ AG := List.mem_filter.mpr ⟨Q5_5i (List.mem_of_getElem? (i := 4) rfl), rfl⟩
theorem q_1091 : Cond.selects RX6 yX6_high yX6_high ∈ AG := List.mem_filter.mpr ⟨Q5_5i (List.mem_of_getElem? (i := 5) rfl), rfl⟩
theorem q_1092 : Cond.code yX6_high cX6_high 1 (some .long) ∈ AG := List.mem_filter.mpr ⟨Q5_5i (List.mem_of_getElem? (i := 6) rfl), rfl⟩
theorem q_1093 : Cond.methodLink RL 170 yX6_survivors ∈ AG := List.mem_filter.mpr ⟨Q5_5i (List.mem_of_getElem? (i := 7) rfl), rfl⟩
theorem q_1094 : Cond.instanceMethod yX6_survivors ∈ AG := List.mem_filter.mpr ⟨Q5_5i (List.mem_of_getElem? (i := 8) rfl), rfl⟩
theorem q_1095 : Cond.selects RX6 yX6_survivors yX6_survivors ∈ AG := List.mem_filter.mpr ⟨Q5_5i (List.mem_of_getElem? (i := 9) rfl), rfl⟩
theorem q_1096 : Cond.code yX6_survivors cX6_survivors 1 (some .int) ∈ AG := List.mem_filter.mpr ⟨Q5_5i (List.mem_of_getElem? (i := 10) rfl), rfl⟩
theorem q_1097 : Cond.methodLink RX6 212 yX6_select ∈ AG := List.mem_filter.mpr ⟨Q5_5i (List.mem_of_getElem? (i := 11) rfl), rfl⟩
theorem q_1099 : Cond.instanceMethod yX6_select ∈ AG := List.mem_filter.mpr ⟨Q5_5i (List.mem_of_getElem? (i := 13) rfl), rfl⟩
theorem q_1100 : Cond.code yX6_select cX6_select 2 none ∈ AG := List.mem_filter.mpr ⟨Q5_5i (List.mem_of_getElem? (i := 14) rfl), rfl⟩
theorem q_1101 : Cond.methodLink RX6 194 yX6_surviving ∈ AG := List.mem_filter.mpr ⟨Q5_5i (List.mem_of_getElem? (i := 15) rfl), rfl⟩
theorem q_1103 : Cond.instanceMethod yX6_surviving ∈ AG := List.mem_filter.mpr ⟨Q5_6i (List.mem_of_getElem? (i := 1) rfl), rfl⟩
theorem q_1104 : Cond.code yX6_surviving cX6_surviving 3 (some .int) ∈ AG := List.mem_filter.mpr ⟨Q5_6i (List.mem_of_getElem? (i := 2) rfl), rfl⟩
theorem q_1105 : Cond.methodLink RX6 204 yX6_removes ∈ AG := List.mem_filter.mpr ⟨Q5_6i (List.mem_of_getElem? (i := 3) rfl), rfl⟩
theorem q_1107 : Cond.instanceMethod yX6_removes ∈ AG := List.mem_filter.mpr ⟨Q5_6i (List.mem_of_getElem? (i := 5) rfl), rfl⟩
theorem q_1108 : Cond.code yX6_removes cX6_removes 6 (some .boolean) ∈ AG := List.mem_filter.mpr ⟨Q5_6i (List.mem_of_getElem? (i := 6) rfl), rfl⟩
theorem q_1109 : Cond.methodLink RX6 198 yX6_spread ∈ AG := List.mem_filter.mpr ⟨Q5_6i (List.mem_of_getElem? (i := 7) rfl), rfl⟩
theorem q_1111 : Cond.instanceMethod yX6_spread ∈ AG := List.mem_filter.mpr ⟨Q5_6i (List.mem_of_getElem? (i := 9) rfl), rfl⟩
theorem q_1112 : Cond.code yX6_spread cX6_spread 5 (some .long) ∈ AG := List.mem_filter.mpr ⟨Q5_6i (List.mem_of_getElem? (i := 10) rfl), rfl⟩
theorem q_1113 : Cond.methodLink RL 173 yX6_combinedOffset ∈ AG := List.mem_filter.mpr ⟨Q5_6i (List.mem_of_getElem? (i := 11) rfl), rfl⟩
theorem q_1114 : Cond.instanceMethod yX6_combinedOffset ∈ AG := List.mem_filter.mpr ⟨Q5_6i (List.mem_of_getElem? (i := 12) rfl), rfl⟩
theorem q_1115 : Cond.selects RX6 yX6_combinedOffset yX6_combinedOffset ∈ AG := List.mem_filter.mpr ⟨Q5_6i (List.mem_of_getElem? (i := 13) rfl), rfl⟩
theorem q_1116 : Cond.code yX6_combinedOffset cX6_combinedOffset 1 (some .long) ∈ AG := List.mem_filter.mpr ⟨Q5_6i (List.mem_of_getElem? (i := 14) rfl), rfl⟩
theorem q_1117 : Cond.methodLink RX6 215 yX6_combined ∈ AG := List.mem_filter.mpr ⟨Q5_6i (List.mem_of_getElem? (i := 15) rfl), rfl⟩
theorem q_1119 : Cond.instanceMethod yX6_combined ∈ AG := List.mem_filter.mpr ⟨Q5_7i (List.mem_of_getElem? (i := 1) rfl), rfl⟩
theorem q_1120 : Cond.code yX6_combined cX6_combined 8 (some .long) ∈ AG := List.mem_filter.mpr ⟨Q5_7i (List.mem_of_getElem? (i := 2) rfl), rfl⟩
theorem q_1121 : Cond.methodLink RL 177 yX6_peer ∈ AG := List.mem_filter.mpr ⟨Q5_7i (List.mem_of_getElem? (i := 3) rfl), rfl⟩
theorem q_1122 : Cond.instanceMethod yX6_peer ∈ AG := List.mem_filter.mpr ⟨Q5_7i (List.mem_of_getElem? (i := 4) rfl), rfl⟩
theorem q_1123 : Cond.selects RX6 yX6_peer yX6_peer ∈ AG := List.mem_filter.mpr ⟨Q5_7i (List.mem_of_getElem? (i := 5) rfl), rfl⟩
theorem q_1124 : Cond.code yX6_peer cX6_peer 1 (some .int) ∈ AG := List.mem_filter.mpr ⟨Q5_7i (List.mem_of_getElem? (i := 6) rfl), rfl⟩
theorem q_1125 : Cond.methodLink RX6 218 yX6_leader ∈ AG := List.mem_filter.mpr ⟨Q5_7i (List.mem_of_getElem? (i := 7) rfl), rfl⟩
theorem q_1127 : Cond.instanceMethod yX6_leader ∈ AG := List.mem_filter.mpr ⟨Q5_7i (List.mem_of_getElem? (i := 9) rfl), rfl⟩
theorem q_1128 : Cond.code yX6_leader cX6_leader 4 (some .int) ∈ AG := List.mem_filter.mpr ⟨Q5_7i (List.mem_of_getElem? (i := 10) rfl), rfl⟩
theorem q_1129 : Cond.methodLink RL 180 yX6_synchronize ∈ AG := List.mem_filter.mpr ⟨Q5_7i (List.mem_of_getElem? (i := 11) rfl), rfl⟩
theorem q_1130 : Cond.instanceMethod yX6_synchronize ∈ AG := List.mem_filter.mpr ⟨Q5_7i (List.mem_of_getElem? (i := 12) rfl), rfl⟩
theorem q_1131 : Cond.selects RX6 yX6_synchronize yX6_synchronize ∈ AG := List.mem_filter.mpr ⟨Q5_7i (List.mem_of_getElem? (i := 13) rfl), rfl⟩
theorem q_1132 : Cond.code yX6_synchronize cX6_synchronize 7 (some .int) ∈ AG := List.mem_filter.mpr ⟨Q5_7i (List.mem_of_getElem? (i := 14) rfl), rfl⟩
theorem q_1133 : Cond.constantLong RX6 223 (4) ∈ AG := List.mem_filter.mpr ⟨Q5_7i (List.mem_of_getElem? (i := 15) rfl), rfl⟩
theorem q_1134 : Cond.methodLink RX6 225 yX6_held ∈ AG := List.mem_filter.mpr ⟨Q5_8i (List.mem_of_getElem? (i := 0) rfl), rfl⟩
theorem q_1135 : Cond.static yX6_held ∈ AG := List.mem_filter.mpr ⟨Q5_8i (List.mem_of_getElem? (i := 1) rfl), rfl⟩
theorem q_1136 : Cond.code yX6_held cX6_held 2 (some .int) ∈ AG := List.mem_filter.mpr ⟨Q5_8i (List.mem_of_getElem? (i := 2) rfl), rfl⟩
theorem q_1137 : Cond.constantLong RX6 221 (-500) ∈ AG := List.mem_filter.mpr ⟨Q5_8i (List.mem_of_getElem? (i := 3) rfl), rfl⟩
theorem q_1138 : Cond.constantLong RX6 228 (128000) ∈ AG := List.mem_filter.mpr ⟨Q5_8i (List.mem_of_getElem? (i := 4) rfl), rfl⟩
theorem q_1139 : Cond.methodLink RL 184 yX6_stratum ∈ AG := List.mem_filter.mpr ⟨Q5_8i (List.mem_of_getElem? (i := 5) rfl), rfl⟩
theorem q_1140 : Cond.instanceMethod yX6_stratum ∈ AG := List.mem_filter.mpr ⟨Q5_8i (List.mem_of_getElem? (i := 6) rfl), rfl⟩
theorem q_1141 : Cond.selects RX6 yX6_stratum yX6_stratum ∈ AG := List.mem_filter.mpr ⟨Q5_8i (List.mem_of_getElem? (i := 7) rfl), rfl⟩
theorem q_1142 : Cond.code yX6_stratum cX6_stratum 1 (some .int) ∈ AG := List.mem_filter.mpr ⟨Q5_8i (List.mem_of_getElem? (i := 8) rfl), rfl⟩
theorem q_1143 : Cond.methodLink RL 188 yX6_steps ∈ AG := List.mem_filter.mpr ⟨Q5_8i (List.mem_of_getElem? (i := 9) rfl), rfl⟩
theorem q_1144 : Cond.instanceMethod yX6_steps ∈ AG := List.mem_filter.mpr ⟨Q5_8i (List.mem_of_getElem? (i := 10) rfl), rfl⟩
theorem q_1145 : Cond.selects RX6 yX6_steps yX6_steps ∈ AG := List.mem_filter.mpr ⟨Q5_8i (List.mem_of_getElem? (i := 11) rfl), rfl⟩
theorem q_1146 : Cond.code yX6_steps cX6_steps 1 (some .int) ∈ AG := List.mem_filter.mpr ⟨Q5_8i (List.mem_of_getElem? (i := 12) rfl), rfl⟩
theorem q_1147 : Cond.methodLink RL 192 yX6_synchronizations ∈ AG := List.mem_filter.mpr ⟨Q5_8i (List.mem_of_getElem? (i := 13) rfl), rfl⟩
theorem q_1148 : Cond.instanceMethod yX6_synchronizations ∈ AG := List.mem_filter.mpr ⟨Q5_8i (List.mem_of_getElem? (i := 14) rfl), rfl⟩
theorem q_1149 : Cond.selects RX6 yX6_synchronizations yX6_synchronizations ∈ AG := List.mem_filter.mpr ⟨Q5_8i (List.mem_of_getElem? (i := 15) rfl), rfl⟩
theorem q_1150 : Cond.code yX6_synchronizations cX6_synchronizations 1 (some .int) ∈ AG := List.mem_filter.mpr ⟨Q5_9i (List.mem_of_getElem? (i := 0) rfl), rfl⟩
def NG : List Cond := [Cond.methodLinkNest RX5 9 yX1_init "Clockhouse", Cond.methodLinkNest RX5 18 yX0_init "Clockhouse", Cond.arrayOver (.object "Clockhouse$Server"), Cond.methodLinkNest RX5 31 yX3_init "Clockhouse", Cond.methodLinkNest RX3 11 yX2_init "Clockhouse", Cond.methodLinkNest RX5 36 yX4_init "Clockhouse", Cond.methodLinkNest RX4 11 yX2_init "Clockhouse", Cond.castable "java/lang/IllegalArgumentException" "java/lang/IllegalArgumentException", Cond.declares ⟨"java/lang/RuntimeException", "<init>", "()V"⟩, Cond.declares ⟨"java/lang/RuntimeException", "<init>", "(Ljava/lang/String;)V"⟩, Cond.declares ⟨"java/lang/Exception", "<init>", "()V"⟩, Cond.declares ⟨"java/lang/Exception", "<init>", "(Ljava/lang/String;)V"⟩, Cond.declares ⟨"java/lang/Throwable", "<init>", "()V"⟩, Cond.declares ⟨"java/lang/Throwable", "<init>", "(Ljava/lang/String;)V"⟩, Cond.castable "java/lang/IllegalStateException" "java/lang/IllegalStateException", Cond.castable "java/lang/IndexOutOfBoundsException" "java/lang/IndexOutOfBoundsException"]
theorem NG_tbl : ∀ w ∈ NG, w ∈ lw_tbl := (List.forall_mem_cons.mpr ⟨Q1_1i (List.mem_of_getElem? (i := 10) rfl), (List.forall_mem_cons.mpr ⟨Q1_2i (List.mem_of_getElem? (i := 13) rfl), (List.forall_mem_cons.mpr ⟨Q1_3i (List.mem_of_getElem? (i := 9) rfl), (List.forall_mem_cons.mpr ⟨Q1_3i (List.mem_of_getElem? (i := 12) rfl), (List.forall_mem_cons.mpr ⟨Q1_4i (List.mem_of_getElem? (i := 2) rfl), (List.forall_mem_cons.mpr ⟨Q1_6i (List.mem_of_getElem? (i := 8) rfl), (List.forall_mem_cons.mpr ⟨Q1_6i (List.mem_of_getElem? (i := 13) rfl), (List.forall_mem_cons.mpr ⟨Q2_11i (List.mem_of_getElem? (i := 1) rfl), (List.forall_mem_cons.mpr ⟨Q2_11i (List.mem_of_getElem? (i := 2) rfl), (List.forall_mem_cons.mpr ⟨Q2_11i (List.mem_of_getElem? (i := 3) rfl), (List.forall_mem_cons.mpr ⟨Q2_11i (List.mem_of_getElem? (i := 4) rfl), (List.forall_mem_cons.mpr ⟨Q2_11i (List.mem_of_getElem? (i := 5) rfl), (List.forall_mem_cons.mpr ⟨Q2_11i (List.mem_of_getElem? (i := 6) rfl), (List.forall_mem_cons.mpr ⟨Q2_11i (List.mem_of_getElem? (i := 7) rfl), (List.forall_mem_cons.mpr ⟨Q3_0i (List.mem_of_getElem? (i := 13) rfl), (List.forall_mem_cons.mpr ⟨Q3_6i (List.mem_of_getElem? (i := 6) rfl), (List.forall_mem_nil _)⟩)⟩)⟩)⟩)⟩)⟩)⟩)⟩)⟩)⟩)⟩)⟩)⟩)⟩)⟩)⟩)
