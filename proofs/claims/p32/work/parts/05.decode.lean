theorem dX0_init_0 : decode cX0_init 0 = .ok (.aload_n 0, 1) := by decide +kernel
theorem dX0_init_1 : decode cX0_init 1 = .ok (.invokespecial 1, 3) := by decide +kernel
theorem dX0_init_4 : decode cX0_init 4 = .ok (.return_, 1) := by decide +kernel
theorem dX0_smearBeginning_0 : decode cX0_smearBeginning 0 = .ok (.iload_n 0, 1) := by decide +kernel
theorem dX0_smearBeginning_1 : decode cX0_smearBeginning 1 = .ok (.i2l, 1) := by decide +kernel
theorem dX0_smearBeginning_2 : decode cX0_smearBeginning 2 = .ok (.lconst 1, 1) := by decide +kernel
theorem dX0_smearBeginning_3 : decode cX0_smearBeginning 3 = .ok (.ladd, 1) := by decide +kernel
theorem dX0_smearBeginning_4 : decode cX0_smearBeginning 4 = .ok (.ldc2_w 9, 3) := by decide +kernel
theorem dX0_smearBeginning_7 : decode cX0_smearBeginning 7 = .ok (.lmul, 1) := by decide +kernel
theorem dX0_smearBeginning_8 : decode cX0_smearBeginning 8 = .ok (.ldc2_w 11, 3) := by decide +kernel
theorem dX0_smearBeginning_11 : decode cX0_smearBeginning 11 = .ok (.lsub, 1) := by decide +kernel
theorem dX0_smearBeginning_12 : decode cX0_smearBeginning 12 = .ok (.lreturn, 1) := by decide +kernel
theorem dX0_clear_0 : decode cX0_clear 0 = .ok (.aload_n 0, 1) := by decide +kernel
theorem dX0_clear_1 : decode cX0_clear 1 = .ok (.iconst 0, 1) := by decide +kernel
theorem dX0_clear_2 : decode cX0_clear 2 = .ok (.putfield 13, 3) := by decide +kernel
theorem dX0_clear_5 : decode cX0_clear 5 = .ok (.aload_n 0, 1) := by decide +kernel
theorem dX0_clear_6 : decode cX0_clear 6 = .ok (.iconst 0, 1) := by decide +kernel
theorem dX0_clear_7 : decode cX0_clear 7 = .ok (.putfield 17, 3) := by decide +kernel
theorem dX0_clear_10 : decode cX0_clear 10 = .ok (.return_, 1) := by decide +kernel
theorem dX0_isAnnounced_0 : decode cX0_isAnnounced 0 = .ok (.aload_n 0, 1) := by decide +kernel
theorem dX0_isAnnounced_1 : decode cX0_isAnnounced 1 = .ok (.getfield 13, 3) := by decide +kernel
theorem dX0_isAnnounced_4 : decode cX0_isAnnounced 4 = .ok (.aload_n 0, 1) := by decide +kernel
theorem dX0_isAnnounced_5 : decode cX0_isAnnounced 5 = .ok (.getfield 17, 3) := by decide +kernel
theorem dX0_isAnnounced_8 : decode cX0_isAnnounced 8 = .ok (.ior, 1) := by decide +kernel
theorem dX0_isAnnounced_9 : decode cX0_isAnnounced 9 = .ok (.iload_n 1, 1) := by decide +kernel
theorem dX0_isAnnounced_10 : decode cX0_isAnnounced 10 = .ok (.invokestatic 20, 3) := by decide +kernel
theorem dX0_isAnnounced_13 : decode cX0_isAnnounced 13 = .ok (.ireturn, 1) := by decide +kernel
theorem dX0_announce_0 : decode cX0_announce 0 = .ok (.iload_n 2, 1) := by decide +kernel
theorem dX0_announce_1 : decode cX0_announce 1 = .ok (.ifCond .eq 18, 3) := by decide +kernel
theorem dX0_announce_4 : decode cX0_announce 4 = .ok (.aload_n 0, 1) := by decide +kernel
theorem dX0_announce_5 : decode cX0_announce 5 = .ok (.dup, 1) := by decide +kernel
theorem dX0_announce_6 : decode cX0_announce 6 = .ok (.getfield 13, 3) := by decide +kernel
theorem dX0_announce_9 : decode cX0_announce 9 = .ok (.iconst 1, 1) := by decide +kernel
theorem dX0_announce_10 : decode cX0_announce 10 = .ok (.iload_n 1, 1) := by decide +kernel
theorem dX0_announce_11 : decode cX0_announce 11 = .ok (.ishl, 1) := by decide +kernel
theorem dX0_announce_12 : decode cX0_announce 12 = .ok (.ior, 1) := by decide +kernel
theorem dX0_announce_13 : decode cX0_announce 13 = .ok (.putfield 13, 3) := by decide +kernel
theorem dX0_announce_16 : decode cX0_announce 16 = .ok (.goto 15, 3) := by decide +kernel
theorem dX0_announce_19 : decode cX0_announce 19 = .ok (.aload_n 0, 1) := by decide +kernel
theorem dX0_announce_20 : decode cX0_announce 20 = .ok (.dup, 1) := by decide +kernel
theorem dX0_announce_21 : decode cX0_announce 21 = .ok (.getfield 17, 3) := by decide +kernel
theorem dX0_announce_24 : decode cX0_announce 24 = .ok (.iconst 1, 1) := by decide +kernel
theorem dX0_announce_25 : decode cX0_announce 25 = .ok (.iload_n 1, 1) := by decide +kernel
theorem dX0_announce_26 : decode cX0_announce 26 = .ok (.ishl, 1) := by decide +kernel
theorem dX0_announce_27 : decode cX0_announce 27 = .ok (.ior, 1) := by decide +kernel
theorem dX0_announce_28 : decode cX0_announce 28 = .ok (.putfield 17, 3) := by decide +kernel
theorem dX0_announce_31 : decode cX0_announce 31 = .ok (.return_, 1) := by decide +kernel
theorem dX0_civilTime_0 : decode cX0_civilTime 0 = .ok (.lload_n 1, 1) := by decide +kernel
theorem dX0_civilTime_1 : decode cX0_civilTime 1 = .ok (.lstore_n 3, 1) := by decide +kernel
theorem dX0_civilTime_2 : decode cX0_civilTime 2 = .ok (.iconst 0, 1) := by decide +kernel
theorem dX0_civilTime_3 : decode cX0_civilTime 3 = .ok (.istore 5, 2) := by decide +kernel
theorem dX0_civilTime_5 : decode cX0_civilTime 5 = .ok (.iload 5, 2) := by decide +kernel
theorem dX0_civilTime_7 : decode cX0_civilTime 7 = .ok (.bipush 20, 2) := by decide +kernel
theorem dX0_civilTime_9 : decode cX0_civilTime 9 = .ok (.if_icmp .gt 51, 3) := by decide +kernel
theorem dX0_civilTime_12 : decode cX0_civilTime 12 = .ok (.aload_n 0, 1) := by decide +kernel
theorem dX0_civilTime_13 : decode cX0_civilTime 13 = .ok (.getfield 13, 3) := by decide +kernel
theorem dX0_civilTime_16 : decode cX0_civilTime 16 = .ok (.iload 5, 2) := by decide +kernel
theorem dX0_civilTime_18 : decode cX0_civilTime 18 = .ok (.invokestatic 20, 3) := by decide +kernel
theorem dX0_civilTime_21 : decode cX0_civilTime 21 = .ok (.ifCond .eq 12, 3) := by decide +kernel
theorem dX0_civilTime_24 : decode cX0_civilTime 24 = .ok (.lload_n 3, 1) := by decide +kernel
theorem dX0_civilTime_25 : decode cX0_civilTime 25 = .ok (.iload 5, 2) := by decide +kernel
theorem dX0_civilTime_27 : decode cX0_civilTime 27 = .ok (.lload_n 1, 1) := by decide +kernel
theorem dX0_civilTime_28 : decode cX0_civilTime 28 = .ok (.invokestatic 24, 3) := by decide +kernel
theorem dX0_civilTime_31 : decode cX0_civilTime 31 = .ok (.lsub, 1) := by decide +kernel
theorem dX0_civilTime_32 : decode cX0_civilTime 32 = .ok (.lstore_n 3, 1) := by decide +kernel
theorem dX0_civilTime_33 : decode cX0_civilTime 33 = .ok (.aload_n 0, 1) := by decide +kernel
theorem dX0_civilTime_34 : decode cX0_civilTime 34 = .ok (.getfield 17, 3) := by decide +kernel
theorem dX0_civilTime_37 : decode cX0_civilTime 37 = .ok (.iload 5, 2) := by decide +kernel
theorem dX0_civilTime_39 : decode cX0_civilTime 39 = .ok (.invokestatic 20, 3) := by decide +kernel
theorem dX0_civilTime_42 : decode cX0_civilTime 42 = .ok (.ifCond .eq 12, 3) := by decide +kernel
theorem dX0_civilTime_45 : decode cX0_civilTime 45 = .ok (.lload_n 3, 1) := by decide +kernel
theorem dX0_civilTime_46 : decode cX0_civilTime 46 = .ok (.iload 5, 2) := by decide +kernel
theorem dX0_civilTime_48 : decode cX0_civilTime 48 = .ok (.lload_n 1, 1) := by decide +kernel
theorem dX0_civilTime_49 : decode cX0_civilTime 49 = .ok (.invokestatic 24, 3) := by decide +kernel
theorem dX0_civilTime_52 : decode cX0_civilTime 52 = .ok (.ladd, 1) := by decide +kernel
theorem dX0_civilTime_53 : decode cX0_civilTime 53 = .ok (.lstore_n 3, 1) := by decide +kernel
theorem dX0_civilTime_54 : decode cX0_civilTime 54 = .ok (.iinc 5 1, 3) := by decide +kernel
theorem dX0_civilTime_57 : decode cX0_civilTime 57 = .ok (.goto (-52), 3) := by decide +kernel
theorem dX0_civilTime_60 : decode cX0_civilTime 60 = .ok (.lload_n 3, 1) := by decide +kernel
theorem dX0_civilTime_61 : decode cX0_civilTime 61 = .ok (.lreturn, 1) := by decide +kernel
theorem dX0_contains_0 : decode cX0_contains 0 = .ok (.iload_n 0, 1) := by decide +kernel
theorem dX0_contains_1 : decode cX0_contains 1 = .ok (.iload_n 1, 1) := by decide +kernel
theorem dX0_contains_2 : decode cX0_contains 2 = .ok (.ishr, 1) := by decide +kernel
theorem dX0_contains_3 : decode cX0_contains 3 = .ok (.iconst 1, 1) := by decide +kernel
theorem dX0_contains_4 : decode cX0_contains 4 = .ok (.iand, 1) := by decide +kernel
theorem dX0_contains_5 : decode cX0_contains 5 = .ok (.ifCond .eq 7, 3) := by decide +kernel
theorem dX0_contains_8 : decode cX0_contains 8 = .ok (.iconst 1, 1) := by decide +kernel
theorem dX0_contains_9 : decode cX0_contains 9 = .ok (.goto 4, 3) := by decide +kernel
theorem dX0_contains_12 : decode cX0_contains 12 = .ok (.iconst 0, 1) := by decide +kernel
theorem dX0_contains_13 : decode cX0_contains 13 = .ok (.ireturn, 1) := by decide +kernel
theorem dX0_partCome_0 : decode cX0_partCome 0 = .ok (.lload_n 1, 1) := by decide +kernel
theorem dX0_partCome_1 : decode cX0_partCome 1 = .ok (.iload_n 0, 1) := by decide +kernel
theorem dX0_partCome_2 : decode cX0_partCome 2 = .ok (.invokestatic 28, 3) := by decide +kernel
theorem dX0_partCome_5 : decode cX0_partCome 5 = .ok (.lsub, 1) := by decide +kernel
theorem dX0_partCome_6 : decode cX0_partCome 6 = .ok (.lstore_n 3, 1) := by decide +kernel
theorem dX0_partCome_7 : decode cX0_partCome 7 = .ok (.lload_n 3, 1) := by decide +kernel
theorem dX0_partCome_8 : decode cX0_partCome 8 = .ok (.lconst 0, 1) := by decide +kernel
theorem dX0_partCome_9 : decode cX0_partCome 9 = .ok (.lcmp, 1) := by decide +kernel
theorem dX0_partCome_10 : decode cX0_partCome 10 = .ok (.ifCond .ge 5, 3) := by decide +kernel
theorem dX0_partCome_13 : decode cX0_partCome 13 = .ok (.lconst 0, 1) := by decide +kernel
theorem dX0_partCome_14 : decode cX0_partCome 14 = .ok (.lreturn, 1) := by decide +kernel
theorem dX0_partCome_15 : decode cX0_partCome 15 = .ok (.lload_n 3, 1) := by decide +kernel
theorem dX0_partCome_16 : decode cX0_partCome 16 = .ok (.ldc2_w 11, 3) := by decide +kernel
theorem dX0_partCome_19 : decode cX0_partCome 19 = .ok (.lcmp, 1) := by decide +kernel
theorem dX0_partCome_20 : decode cX0_partCome 20 = .ok (.ifCond .ge 11, 3) := by decide +kernel
theorem dX0_partCome_23 : decode cX0_partCome 23 = .ok (.lload_n 3, 1) := by decide +kernel
theorem dX0_partCome_24 : decode cX0_partCome 24 = .ok (.ldc2_w 32, 3) := by decide +kernel
theorem dX0_partCome_27 : decode cX0_partCome 27 = .ok (.ldiv, 1) := by decide +kernel
theorem dX0_partCome_28 : decode cX0_partCome 28 = .ok (.goto 6, 3) := by decide +kernel
theorem dX0_partCome_31 : decode cX0_partCome 31 = .ok (.ldc2_w 34, 3) := by decide +kernel
theorem dX0_partCome_34 : decode cX0_partCome 34 = .ok (.lreturn, 1) := by decide +kernel
theorem dX1_init_0 : decode cX1_init 0 = .ok (.aload_n 0, 1) := by decide +kernel
theorem dX1_init_1 : decode cX1_init 1 = .ok (.invokespecial 3, 3) := by decide +kernel
theorem dX1_init_4 : decode cX1_init 4 = .ok (.return_, 1) := by decide +kernel
theorem dX1_begin_0 : decode cX1_begin 0 = .ok (.aload_n 0, 1) := by decide +kernel
theorem dX1_begin_1 : decode cX1_begin 1 = .ok (.iload_n 1, 1) := by decide +kernel
theorem dX1_begin_2 : decode cX1_begin 2 = .ok (.i2l, 1) := by decide +kernel
theorem dX1_begin_3 : decode cX1_begin 3 = .ok (.ldc2_w 9, 3) := by decide +kernel
theorem dX1_begin_6 : decode cX1_begin 6 = .ok (.lmul, 1) := by decide +kernel
theorem dX1_begin_7 : decode cX1_begin 7 = .ok (.putfield 11, 3) := by decide +kernel
theorem dX1_begin_10 : decode cX1_begin 10 = .ok (.aload_n 0, 1) := by decide +kernel
theorem dX1_begin_11 : decode cX1_begin 11 = .ok (.lconst 0, 1) := by decide +kernel
theorem dX1_begin_12 : decode cX1_begin 12 = .ok (.putfield 17, 3) := by decide +kernel
theorem dX1_begin_15 : decode cX1_begin 15 = .ok (.aload_n 0, 1) := by decide +kernel
theorem dX1_begin_16 : decode cX1_begin 16 = .ok (.iconst 0, 1) := by decide +kernel
theorem dX1_begin_17 : decode cX1_begin 17 = .ok (.putfield 20, 3) := by decide +kernel
theorem dX1_begin_20 : decode cX1_begin 20 = .ok (.aload_n 0, 1) := by decide +kernel
theorem dX1_begin_21 : decode cX1_begin 21 = .ok (.iconst 0, 1) := by decide +kernel
theorem dX1_begin_22 : decode cX1_begin 22 = .ok (.putfield 24, 3) := by decide +kernel
theorem dX1_begin_25 : decode cX1_begin 25 = .ok (.return_, 1) := by decide +kernel
theorem dX1_reading_0 : decode cX1_reading 0 = .ok (.aload_n 0, 1) := by decide +kernel
theorem dX1_reading_1 : decode cX1_reading 1 = .ok (.getfield 11, 3) := by decide +kernel
theorem dX1_reading_4 : decode cX1_reading 4 = .ok (.ldc2_w 9, 3) := by decide +kernel
theorem dX1_reading_7 : decode cX1_reading 7 = .ok (.invokestatic 27, 3) := by decide +kernel
theorem dX1_reading_10 : decode cX1_reading 10 = .ok (.lreturn, 1) := by decide +kernel
theorem dX1_pendingMicros_0 : decode cX1_pendingMicros 0 = .ok (.aload_n 0, 1) := by decide +kernel
theorem dX1_pendingMicros_1 : decode cX1_pendingMicros 1 = .ok (.getfield 17, 3) := by decide +kernel
theorem dX1_pendingMicros_4 : decode cX1_pendingMicros 4 = .ok (.ldc2_w 9, 3) := by decide +kernel
theorem dX1_pendingMicros_7 : decode cX1_pendingMicros 7 = .ok (.ldiv, 1) := by decide +kernel
theorem dX1_pendingMicros_8 : decode cX1_pendingMicros 8 = .ok (.lreturn, 1) := by decide +kernel
theorem dX1_presentCorrection_0 : decode cX1_presentCorrection 0 = .ok (.aload_n 0, 1) := by decide +kernel
theorem dX1_presentCorrection_1 : decode cX1_presentCorrection 1 = .ok (.getfield 24, 3) := by decide +kernel
theorem dX1_presentCorrection_4 : decode cX1_presentCorrection 4 = .ok (.ireturn, 1) := by decide +kernel
theorem dX1_changeDrift_0 : decode cX1_changeDrift 0 = .ok (.aload_n 0, 1) := by decide +kernel
theorem dX1_changeDrift_1 : decode cX1_changeDrift 1 = .ok (.getfield 20, 3) := by decide +kernel
theorem dX1_changeDrift_4 : decode cX1_changeDrift 4 = .ok (.istore_n 2, 1) := by decide +kernel
theorem dX1_changeDrift_5 : decode cX1_changeDrift 5 = .ok (.aload_n 0, 1) := by decide +kernel
theorem dX1_changeDrift_6 : decode cX1_changeDrift 6 = .ok (.iload_n 1, 1) := by decide +kernel
theorem dX1_changeDrift_7 : decode cX1_changeDrift 7 = .ok (.putfield 20, 3) := by decide +kernel
theorem dX1_changeDrift_10 : decode cX1_changeDrift 10 = .ok (.iload_n 2, 1) := by decide +kernel
theorem dX1_changeDrift_11 : decode cX1_changeDrift 11 = .ok (.ireturn, 1) := by decide +kernel
theorem dX1_elapse_0 : decode cX1_elapse 0 = .ok (.ldc2_w 33, 3) := by decide +kernel
theorem dX1_elapse_3 : decode cX1_elapse 3 = .ok (.iload_n 1, 1) := by decide +kernel
theorem dX1_elapse_4 : decode cX1_elapse 4 = .ok (.i2l, 1) := by decide +kernel
theorem dX1_elapse_5 : decode cX1_elapse 5 = .ok (.lmul, 1) := by decide +kernel
theorem dX1_elapse_6 : decode cX1_elapse 6 = .ok (.lstore_n 2, 1) := by decide +kernel
theorem dX1_elapse_7 : decode cX1_elapse 7 = .ok (.lload_n 2, 1) := by decide +kernel
theorem dX1_elapse_8 : decode cX1_elapse 8 = .ok (.lneg, 1) := by decide +kernel
theorem dX1_elapse_9 : decode cX1_elapse 9 = .ok (.lload_n 2, 1) := by decide +kernel
theorem dX1_elapse_10 : decode cX1_elapse 10 = .ok (.aload_n 0, 1) := by decide +kernel
theorem dX1_elapse_11 : decode cX1_elapse 11 = .ok (.getfield 17, 3) := by decide +kernel
theorem dX1_elapse_14 : decode cX1_elapse 14 = .ok (.invokestatic 35, 3) := by decide +kernel
theorem dX1_elapse_17 : decode cX1_elapse 17 = .ok (.invokestatic 38, 3) := by decide +kernel
theorem dX1_elapse_20 : decode cX1_elapse 20 = .ok (.lstore 4, 2) := by decide +kernel
theorem dX1_elapse_22 : decode cX1_elapse 22 = .ok (.aload_n 0, 1) := by decide +kernel
theorem dX1_elapse_23 : decode cX1_elapse 23 = .ok (.dup, 1) := by decide +kernel
theorem dX1_elapse_24 : decode cX1_elapse 24 = .ok (.getfield 11, 3) := by decide +kernel
theorem dX1_elapse_27 : decode cX1_elapse 27 = .ok (.iload_n 1, 1) := by decide +kernel
theorem dX1_elapse_28 : decode cX1_elapse 28 = .ok (.i2l, 1) := by decide +kernel
theorem dX1_elapse_29 : decode cX1_elapse 29 = .ok (.ldc2_w 9, 3) := by decide +kernel
theorem dX1_elapse_32 : decode cX1_elapse 32 = .ok (.aload_n 0, 1) := by decide +kernel
theorem dX1_elapse_33 : decode cX1_elapse 33 = .ok (.getfield 20, 3) := by decide +kernel
theorem dX1_elapse_36 : decode cX1_elapse 36 = .ok (.i2l, 1) := by decide +kernel
theorem dX1_elapse_37 : decode cX1_elapse 37 = .ok (.ladd, 1) := by decide +kernel
theorem dX1_elapse_38 : decode cX1_elapse 38 = .ok (.aload_n 0, 1) := by decide +kernel
theorem dX1_elapse_39 : decode cX1_elapse 39 = .ok (.getfield 24, 3) := by decide +kernel
theorem dX1_elapse_42 : decode cX1_elapse 42 = .ok (.i2l, 1) := by decide +kernel
theorem dX1_elapse_43 : decode cX1_elapse 43 = .ok (.ladd, 1) := by decide +kernel
theorem dX1_elapse_44 : decode cX1_elapse 44 = .ok (.lmul, 1) := by decide +kernel
theorem dX1_elapse_45 : decode cX1_elapse 45 = .ok (.lload 4, 2) := by decide +kernel
theorem dX1_elapse_47 : decode cX1_elapse 47 = .ok (.ladd, 1) := by decide +kernel
theorem dX1_elapse_48 : decode cX1_elapse 48 = .ok (.ladd, 1) := by decide +kernel
theorem dX1_elapse_49 : decode cX1_elapse 49 = .ok (.putfield 11, 3) := by decide +kernel
theorem dX1_elapse_52 : decode cX1_elapse 52 = .ok (.aload_n 0, 1) := by decide +kernel
theorem dX1_elapse_53 : decode cX1_elapse 53 = .ok (.dup, 1) := by decide +kernel
theorem dX1_elapse_54 : decode cX1_elapse 54 = .ok (.getfield 17, 3) := by decide +kernel
theorem dX1_elapse_57 : decode cX1_elapse 57 = .ok (.lload 4, 2) := by decide +kernel
theorem dX1_elapse_59 : decode cX1_elapse 59 = .ok (.lsub, 1) := by decide +kernel
theorem dX1_elapse_60 : decode cX1_elapse 60 = .ok (.putfield 17, 3) := by decide +kernel
theorem dX1_elapse_63 : decode cX1_elapse 63 = .ok (.return_, 1) := by decide +kernel
theorem dX1_addCorrection_0 : decode cX1_addCorrection 0 = .ok (.aload_n 0, 1) := by decide +kernel
theorem dX1_addCorrection_1 : decode cX1_addCorrection 1 = .ok (.getfield 24, 3) := by decide +kernel
theorem dX1_addCorrection_4 : decode cX1_addCorrection 4 = .ok (.i2l, 1) := by decide +kernel
theorem dX1_addCorrection_5 : decode cX1_addCorrection 5 = .ok (.lload_n 1, 1) := by decide +kernel
theorem dX1_addCorrection_6 : decode cX1_addCorrection 6 = .ok (.ladd, 1) := by decide +kernel
theorem dX1_addCorrection_7 : decode cX1_addCorrection 7 = .ok (.lstore_n 3, 1) := by decide +kernel
theorem dX1_addCorrection_8 : decode cX1_addCorrection 8 = .ok (.aload_n 0, 1) := by decide +kernel
theorem dX1_addCorrection_9 : decode cX1_addCorrection 9 = .ok (.ldc2_w 41, 3) := by decide +kernel
theorem dX1_addCorrection_12 : decode cX1_addCorrection 12 = .ok (.ldc2_w 33, 3) := by decide +kernel
theorem dX1_addCorrection_15 : decode cX1_addCorrection 15 = .ok (.lload_n 3, 1) := by decide +kernel
theorem dX1_addCorrection_16 : decode cX1_addCorrection 16 = .ok (.invokestatic 35, 3) := by decide +kernel
theorem dX1_addCorrection_19 : decode cX1_addCorrection 19 = .ok (.invokestatic 38, 3) := by decide +kernel
theorem dX1_addCorrection_22 : decode cX1_addCorrection 22 = .ok (.l2i, 1) := by decide +kernel
theorem dX1_addCorrection_23 : decode cX1_addCorrection 23 = .ok (.putfield 24, 3) := by decide +kernel
theorem dX1_addCorrection_26 : decode cX1_addCorrection 26 = .ok (.return_, 1) := by decide +kernel
theorem dX1_step_0 : decode cX1_step 0 = .ok (.aload_n 0, 1) := by decide +kernel
theorem dX1_step_1 : decode cX1_step 1 = .ok (.dup, 1) := by decide +kernel
theorem dX1_step_2 : decode cX1_step 2 = .ok (.getfield 11, 3) := by decide +kernel
theorem dX1_step_5 : decode cX1_step 5 = .ok (.lload_n 1, 1) := by decide +kernel
theorem dX1_step_6 : decode cX1_step 6 = .ok (.ldc2_w 9, 3) := by decide +kernel
theorem dX1_step_9 : decode cX1_step 9 = .ok (.lmul, 1) := by decide +kernel
theorem dX1_step_10 : decode cX1_step 10 = .ok (.ladd, 1) := by decide +kernel
theorem dX1_step_11 : decode cX1_step 11 = .ok (.putfield 11, 3) := by decide +kernel
theorem dX1_step_14 : decode cX1_step 14 = .ok (.aload_n 0, 1) := by decide +kernel
theorem dX1_step_15 : decode cX1_step 15 = .ok (.lconst 0, 1) := by decide +kernel
theorem dX1_step_16 : decode cX1_step 16 = .ok (.putfield 17, 3) := by decide +kernel
theorem dX1_step_19 : decode cX1_step 19 = .ok (.return_, 1) := by decide +kernel
theorem dX1_slew_0 : decode cX1_slew 0 = .ok (.aload_n 0, 1) := by decide +kernel
theorem dX1_slew_1 : decode cX1_slew 1 = .ok (.lload_n 1, 1) := by decide +kernel
theorem dX1_slew_2 : decode cX1_slew 2 = .ok (.ldc2_w 9, 3) := by decide +kernel
theorem dX1_slew_5 : decode cX1_slew 5 = .ok (.lmul, 1) := by decide +kernel
theorem dX1_slew_6 : decode cX1_slew 6 = .ok (.putfield 17, 3) := by decide +kernel
theorem dX1_slew_9 : decode cX1_slew 9 = .ok (.return_, 1) := by decide +kernel
theorem dX2_init_0 : decode cX2_init 0 = .ok (.aload_n 0, 1) := by decide +kernel
theorem dX2_init_1 : decode cX2_init 1 = .ok (.invokespecial 1, 3) := by decide +kernel
theorem dX2_init_4 : decode cX2_init 4 = .ok (.aload_n 0, 1) := by decide +kernel
theorem dX2_init_5 : decode cX2_init 5 = .ok (.bipush 8, 2) := by decide +kernel
theorem dX2_init_7 : decode cX2_init 7 = .ok (.newarray .long, 2) := by decide +kernel
theorem dX2_init_9 : decode cX2_init 9 = .ok (.putfield 9, 3) := by decide +kernel
theorem dX2_init_12 : decode cX2_init 12 = .ok (.return_, 1) := by decide +kernel
theorem dX2_get_0 : decode cX2_get 0 = .ok (.iload_n 1, 1) := by decide +kernel
theorem dX2_get_1 : decode cX2_get 1 = .ok (.ifCond .lt 21, 3) := by decide +kernel
theorem dX2_get_4 : decode cX2_get 4 = .ok (.iload_n 1, 1) := by decide +kernel
theorem dX2_get_5 : decode cX2_get 5 = .ok (.aload_n 0, 1) := by decide +kernel
theorem dX2_get_6 : decode cX2_get 6 = .ok (.getfield 9, 3) := by decide +kernel
theorem dX2_get_9 : decode cX2_get 9 = .ok (.arraylength, 1) := by decide +kernel
theorem dX2_get_10 : decode cX2_get 10 = .ok (.if_icmp .ge 12, 3) := by decide +kernel
theorem dX2_get_13 : decode cX2_get 13 = .ok (.aload_n 0, 1) := by decide +kernel
theorem dX2_get_14 : decode cX2_get 14 = .ok (.getfield 9, 3) := by decide +kernel
theorem dX2_get_17 : decode cX2_get 17 = .ok (.iload_n 1, 1) := by decide +kernel
theorem dX2_get_18 : decode cX2_get 18 = .ok (.laload, 1) := by decide +kernel
theorem dX2_get_19 : decode cX2_get 19 = .ok (.goto 4, 3) := by decide +kernel
theorem dX2_get_22 : decode cX2_get 22 = .ok (.lconst 0, 1) := by decide +kernel
theorem dX2_get_23 : decode cX2_get 23 = .ok (.lreturn, 1) := by decide +kernel
theorem dX2_put_0 : decode cX2_put 0 = .ok (.iload_n 1, 1) := by decide +kernel
theorem dX2_put_1 : decode cX2_put 1 = .ok (.ifCond .lt 19, 3) := by decide +kernel
theorem dX2_put_4 : decode cX2_put 4 = .ok (.iload_n 1, 1) := by decide +kernel
theorem dX2_put_5 : decode cX2_put 5 = .ok (.aload_n 0, 1) := by decide +kernel
theorem dX2_put_6 : decode cX2_put 6 = .ok (.getfield 9, 3) := by decide +kernel
theorem dX2_put_9 : decode cX2_put 9 = .ok (.arraylength, 1) := by decide +kernel
theorem dX2_put_10 : decode cX2_put 10 = .ok (.if_icmp .ge 10, 3) := by decide +kernel
theorem dX2_put_13 : decode cX2_put 13 = .ok (.aload_n 0, 1) := by decide +kernel
theorem dX2_put_14 : decode cX2_put 14 = .ok (.getfield 9, 3) := by decide +kernel
theorem dX2_put_17 : decode cX2_put 17 = .ok (.iload_n 1, 1) := by decide +kernel
theorem dX2_put_18 : decode cX2_put 18 = .ok (.lload_n 2, 1) := by decide +kernel
theorem dX2_put_19 : decode cX2_put 19 = .ok (.lastore, 1) := by decide +kernel
theorem dX2_put_20 : decode cX2_put 20 = .ok (.return_, 1) := by decide +kernel
theorem dX2_push_0 : decode cX2_push 0 = .ok (.bipush 7, 2) := by decide +kernel
theorem dX2_push_2 : decode cX2_push 2 = .ok (.istore_n 3, 1) := by decide +kernel
theorem dX2_push_3 : decode cX2_push 3 = .ok (.iload_n 3, 1) := by decide +kernel
theorem dX2_push_4 : decode cX2_push 4 = .ok (.ifCond .le 21, 3) := by decide +kernel
theorem dX2_push_7 : decode cX2_push 7 = .ok (.aload_n 0, 1) := by decide +kernel
theorem dX2_push_8 : decode cX2_push 8 = .ok (.iload_n 3, 1) := by decide +kernel
theorem dX2_push_9 : decode cX2_push 9 = .ok (.aload_n 0, 1) := by decide +kernel
theorem dX2_push_10 : decode cX2_push 10 = .ok (.iload_n 3, 1) := by decide +kernel
theorem dX2_push_11 : decode cX2_push 11 = .ok (.iconst 1, 1) := by decide +kernel
theorem dX2_push_12 : decode cX2_push 12 = .ok (.isub, 1) := by decide +kernel
theorem dX2_push_13 : decode cX2_push 13 = .ok (.invokevirtual 13, 3) := by decide +kernel
theorem dX2_push_16 : decode cX2_push 16 = .ok (.invokevirtual 17, 3) := by decide +kernel
theorem dX2_push_19 : decode cX2_push 19 = .ok (.iinc 3 (-1), 3) := by decide +kernel
theorem dX2_push_22 : decode cX2_push 22 = .ok (.goto (-19), 3) := by decide +kernel
theorem dX2_push_25 : decode cX2_push 25 = .ok (.aload_n 0, 1) := by decide +kernel
theorem dX2_push_26 : decode cX2_push 26 = .ok (.iconst 0, 1) := by decide +kernel
theorem dX2_push_27 : decode cX2_push 27 = .ok (.lload_n 1, 1) := by decide +kernel
theorem dX2_push_28 : decode cX2_push 28 = .ok (.invokevirtual 17, 3) := by decide +kernel
theorem dX2_push_31 : decode cX2_push 31 = .ok (.return_, 1) := by decide +kernel
theorem dX3_init_0 : decode cX3_init 0 = .ok (.aload_n 0, 1) := by decide +kernel
theorem dX3_init_1 : decode cX3_init 1 = .ok (.invokespecial 3, 3) := by decide +kernel
theorem dX3_init_4 : decode cX3_init 4 = .ok (.aload_n 0, 1) := by decide +kernel
theorem dX3_init_5 : decode cX3_init 5 = .ok (.new 9, 3) := by decide +kernel
theorem dX3_init_8 : decode cX3_init 8 = .ok (.dup, 1) := by decide +kernel
theorem dX3_init_9 : decode cX3_init 9 = .ok (.invokespecial 11, 3) := by decide +kernel
theorem dX3_init_12 : decode cX3_init 12 = .ok (.putfield 12, 3) := by decide +kernel
theorem dX3_init_15 : decode cX3_init 15 = .ok (.aload_n 0, 1) := by decide +kernel
theorem dX3_init_16 : decode cX3_init 16 = .ok (.new 9, 3) := by decide +kernel
theorem dX3_init_19 : decode cX3_init 19 = .ok (.dup, 1) := by decide +kernel
theorem dX3_init_20 : decode cX3_init 20 = .ok (.invokespecial 11, 3) := by decide +kernel
theorem dX3_init_23 : decode cX3_init 23 = .ok (.putfield 18, 3) := by decide +kernel
theorem dX3_init_26 : decode cX3_init 26 = .ok (.aload_n 0, 1) := by decide +kernel
theorem dX3_init_27 : decode cX3_init 27 = .ok (.new 9, 3) := by decide +kernel
theorem dX3_init_30 : decode cX3_init 30 = .ok (.dup, 1) := by decide +kernel
theorem dX3_init_31 : decode cX3_init 31 = .ok (.invokespecial 11, 3) := by decide +kernel
theorem dX3_init_34 : decode cX3_init 34 = .ok (.putfield 21, 3) := by decide +kernel
theorem dX3_init_37 : decode cX3_init 37 = .ok (.aload_n 0, 1) := by decide +kernel
theorem dX3_init_38 : decode cX3_init 38 = .ok (.new 9, 3) := by decide +kernel
theorem dX3_init_41 : decode cX3_init 41 = .ok (.dup, 1) := by decide +kernel
theorem dX3_init_42 : decode cX3_init 42 = .ok (.invokespecial 11, 3) := by decide +kernel
theorem dX3_init_45 : decode cX3_init 45 = .ok (.putfield 24, 3) := by decide +kernel
theorem dX3_init_48 : decode cX3_init 48 = .ok (.return_, 1) := by decide +kernel
theorem dX3_clear_0 : decode cX3_clear 0 = .ok (.aload_n 0, 1) := by decide +kernel
theorem dX3_clear_1 : decode cX3_clear 1 = .ok (.iconst 0, 1) := by decide +kernel
theorem dX3_clear_2 : decode cX3_clear 2 = .ok (.putfield 27, 3) := by decide +kernel
theorem dX3_clear_5 : decode cX3_clear 5 = .ok (.aload_n 0, 1) := by decide +kernel
theorem dX3_clear_6 : decode cX3_clear 6 = .ok (.iconst 0, 1) := by decide +kernel
theorem dX3_clear_7 : decode cX3_clear 7 = .ok (.putfield 31, 3) := by decide +kernel
theorem dX3_clear_10 : decode cX3_clear 10 = .ok (.aload_n 0, 1) := by decide +kernel
theorem dX3_clear_11 : decode cX3_clear 11 = .ok (.iconst 0, 1) := by decide +kernel
theorem dX3_clear_12 : decode cX3_clear 12 = .ok (.putfield 34, 3) := by decide +kernel
theorem dX3_clear_15 : decode cX3_clear 15 = .ok (.aload_n 0, 1) := by decide +kernel
theorem dX3_clear_16 : decode cX3_clear 16 = .ok (.lconst 0, 1) := by decide +kernel
theorem dX3_clear_17 : decode cX3_clear 17 = .ok (.putfield 37, 3) := by decide +kernel
theorem dX3_clear_20 : decode cX3_clear 20 = .ok (.aload_n 0, 1) := by decide +kernel
theorem dX3_clear_21 : decode cX3_clear 21 = .ok (.lconst 0, 1) := by decide +kernel
theorem dX3_clear_22 : decode cX3_clear 22 = .ok (.putfield 41, 3) := by decide +kernel
theorem dX3_clear_25 : decode cX3_clear 25 = .ok (.return_, 1) := by decide +kernel
theorem dX3_enter_0 : decode cX3_enter 0 = .ok (.aload_n 0, 1) := by decide +kernel
theorem dX3_enter_1 : decode cX3_enter 1 = .ok (.getfield 12, 3) := by decide +kernel
theorem dX3_enter_4 : decode cX3_enter 4 = .ok (.iload_n 1, 1) := by decide +kernel
theorem dX3_enter_5 : decode cX3_enter 5 = .ok (.aload_n 2, 1) := by decide +kernel
theorem dX3_enter_6 : decode cX3_enter 6 = .ok (.invokevirtual 44, 3) := by decide +kernel
theorem dX3_enter_9 : decode cX3_enter 9 = .ok (.invokevirtual 50, 3) := by decide +kernel
theorem dX3_enter_12 : decode cX3_enter 12 = .ok (.aload_n 0, 1) := by decide +kernel
theorem dX3_enter_13 : decode cX3_enter 13 = .ok (.getfield 18, 3) := by decide +kernel
theorem dX3_enter_16 : decode cX3_enter 16 = .ok (.iload_n 1, 1) := by decide +kernel
theorem dX3_enter_17 : decode cX3_enter 17 = .ok (.aload_n 2, 1) := by decide +kernel
theorem dX3_enter_18 : decode cX3_enter 18 = .ok (.lload_n 3, 1) := by decide +kernel
theorem dX3_enter_19 : decode cX3_enter 19 = .ok (.invokevirtual 54, 3) := by decide +kernel
theorem dX3_enter_22 : decode cX3_enter 22 = .ok (.invokevirtual 50, 3) := by decide +kernel
theorem dX3_enter_25 : decode cX3_enter 25 = .ok (.aload_n 0, 1) := by decide +kernel
theorem dX3_enter_26 : decode cX3_enter 26 = .ok (.getfield 21, 3) := by decide +kernel
theorem dX3_enter_29 : decode cX3_enter 29 = .ok (.iload_n 1, 1) := by decide +kernel
theorem dX3_enter_30 : decode cX3_enter 30 = .ok (.aload_n 2, 1) := by decide +kernel
theorem dX3_enter_31 : decode cX3_enter 31 = .ok (.invokevirtual 58, 3) := by decide +kernel
theorem dX3_enter_34 : decode cX3_enter 34 = .ok (.invokevirtual 50, 3) := by decide +kernel
theorem dX3_enter_37 : decode cX3_enter 37 = .ok (.aload_n 0, 1) := by decide +kernel
theorem dX3_enter_38 : decode cX3_enter 38 = .ok (.getfield 24, 3) := by decide +kernel
theorem dX3_enter_41 : decode cX3_enter 41 = .ok (.iload_n 1, 1) := by decide +kernel
theorem dX3_enter_42 : decode cX3_enter 42 = .ok (.aload_n 2, 1) := by decide +kernel
theorem dX3_enter_43 : decode cX3_enter 43 = .ok (.invokevirtual 61, 3) := by decide +kernel
theorem dX3_enter_46 : decode cX3_enter 46 = .ok (.i2l, 1) := by decide +kernel
theorem dX3_enter_47 : decode cX3_enter 47 = .ok (.invokevirtual 50, 3) := by decide +kernel
theorem dX3_enter_50 : decode cX3_enter 50 = .ok (.aload_n 0, 1) := by decide +kernel
theorem dX3_enter_51 : decode cX3_enter 51 = .ok (.dup, 1) := by decide +kernel
theorem dX3_enter_52 : decode cX3_enter 52 = .ok (.getfield 27, 3) := by decide +kernel
theorem dX3_enter_55 : decode cX3_enter 55 = .ok (.iconst 1, 1) := by decide +kernel
theorem dX3_enter_56 : decode cX3_enter 56 = .ok (.iload_n 1, 1) := by decide +kernel
theorem dX3_enter_57 : decode cX3_enter 57 = .ok (.ishl, 1) := by decide +kernel
theorem dX3_enter_58 : decode cX3_enter 58 = .ok (.ior, 1) := by decide +kernel
theorem dX3_enter_59 : decode cX3_enter 59 = .ok (.putfield 27, 3) := by decide +kernel
theorem dX3_enter_62 : decode cX3_enter 62 = .ok (.return_, 1) := by decide +kernel
theorem dX3_isEmpty_0 : decode cX3_isEmpty 0 = .ok (.aload_n 0, 1) := by decide +kernel
theorem dX3_isEmpty_1 : decode cX3_isEmpty 1 = .ok (.getfield 27, 3) := by decide +kernel
theorem dX3_isEmpty_4 : decode cX3_isEmpty 4 = .ok (.ifCond .ne 7, 3) := by decide +kernel
theorem dX3_isEmpty_7 : decode cX3_isEmpty 7 = .ok (.iconst 1, 1) := by decide +kernel
theorem dX3_isEmpty_8 : decode cX3_isEmpty 8 = .ok (.goto 4, 3) := by decide +kernel
theorem dX3_isEmpty_11 : decode cX3_isEmpty 11 = .ok (.iconst 0, 1) := by decide +kernel
theorem dX3_isEmpty_12 : decode cX3_isEmpty 12 = .ok (.ireturn, 1) := by decide +kernel
theorem dX3_isMajority_0 : decode cX3_isMajority 0 = .ok (.iconst 2, 1) := by decide +kernel
theorem dX3_isMajority_1 : decode cX3_isMajority 1 = .ok (.aload_n 0, 1) := by decide +kernel
theorem dX3_isMajority_2 : decode cX3_isMajority 2 = .ok (.invokevirtual 65, 3) := by decide +kernel
theorem dX3_isMajority_5 : decode cX3_isMajority 5 = .ok (.imul, 1) := by decide +kernel
theorem dX3_isMajority_6 : decode cX3_isMajority 6 = .ok (.aload_n 0, 1) := by decide +kernel
theorem dX3_isMajority_7 : decode cX3_isMajority 7 = .ok (.getfield 27, 3) := by decide +kernel
theorem dX3_isMajority_10 : decode cX3_isMajority 10 = .ok (.invokestatic 68, 3) := by decide +kernel
theorem dX3_isMajority_13 : decode cX3_isMajority 13 = .ok (.if_icmp .le 7, 3) := by decide +kernel
theorem dX3_isMajority_16 : decode cX3_isMajority 16 = .ok (.iconst 1, 1) := by decide +kernel
theorem dX3_isMajority_17 : decode cX3_isMajority 17 = .ok (.goto 4, 3) := by decide +kernel
theorem dX3_isMajority_20 : decode cX3_isMajority 20 = .ok (.iconst 0, 1) := by decide +kernel
theorem dX3_isMajority_21 : decode cX3_isMajority 21 = .ok (.ireturn, 1) := by decide +kernel
theorem dX3_agreed_0 : decode cX3_agreed 0 = .ok (.aload_n 0, 1) := by decide +kernel
theorem dX3_agreed_1 : decode cX3_agreed 1 = .ok (.getfield 31, 3) := by decide +kernel
theorem dX3_agreed_4 : decode cX3_agreed 4 = .ok (.invokestatic 68, 3) := by decide +kernel
theorem dX3_agreed_7 : decode cX3_agreed 7 = .ok (.ireturn, 1) := by decide +kernel
theorem dX3_agreeingBits_0 : decode cX3_agreeingBits 0 = .ok (.aload_n 0, 1) := by decide +kernel
theorem dX3_agreeingBits_1 : decode cX3_agreeingBits 1 = .ok (.getfield 31, 3) := by decide +kernel
theorem dX3_agreeingBits_4 : decode cX3_agreeingBits 4 = .ok (.ireturn, 1) := by decide +kernel
theorem dX3_survivorBits_0 : decode cX3_survivorBits 0 = .ok (.aload_n 0, 1) := by decide +kernel
theorem dX3_survivorBits_1 : decode cX3_survivorBits 1 = .ok (.getfield 34, 3) := by decide +kernel
theorem dX3_survivorBits_4 : decode cX3_survivorBits 4 = .ok (.ireturn, 1) := by decide +kernel
theorem dX3_lowEnd_0 : decode cX3_lowEnd 0 = .ok (.aload_n 0, 1) := by decide +kernel
theorem dX3_lowEnd_1 : decode cX3_lowEnd 1 = .ok (.getfield 37, 3) := by decide +kernel
theorem dX3_lowEnd_4 : decode cX3_lowEnd 4 = .ok (.lreturn, 1) := by decide +kernel
theorem dX3_highEnd_0 : decode cX3_highEnd 0 = .ok (.aload_n 0, 1) := by decide +kernel
theorem dX3_highEnd_1 : decode cX3_highEnd 1 = .ok (.getfield 41, 3) := by decide +kernel
theorem dX3_highEnd_4 : decode cX3_highEnd 4 = .ok (.lreturn, 1) := by decide +kernel
theorem dX3_intersect_0 : decode cX3_intersect 0 = .ok (.iconst 0, 1) := by decide +kernel
theorem dX3_intersect_1 : decode cX3_intersect 1 = .ok (.istore_n 1, 1) := by decide +kernel
theorem dX3_intersect_2 : decode cX3_intersect 2 = .ok (.iload_n 1, 1) := by decide +kernel
theorem dX3_intersect_3 : decode cX3_intersect 3 = .ok (.bipush 8, 2) := by decide +kernel
theorem dX3_intersect_5 : decode cX3_intersect 5 = .ok (.if_icmp .ge 41, 3) := by decide +kernel
theorem dX3_intersect_8 : decode cX3_intersect 8 = .ok (.aload_n 0, 1) := by decide +kernel
theorem dX3_intersect_9 : decode cX3_intersect 9 = .ok (.getfield 27, 3) := by decide +kernel
theorem dX3_intersect_12 : decode cX3_intersect 12 = .ok (.iload_n 1, 1) := by decide +kernel
theorem dX3_intersect_13 : decode cX3_intersect 13 = .ok (.invokestatic 74, 3) := by decide +kernel
theorem dX3_intersect_16 : decode cX3_intersect 16 = .ok (.ifCond .eq 24, 3) := by decide +kernel
theorem dX3_intersect_19 : decode cX3_intersect 19 = .ok (.aload_n 0, 1) := by decide +kernel
theorem dX3_intersect_20 : decode cX3_intersect 20 = .ok (.aload_n 0, 1) := by decide +kernel
theorem dX3_intersect_21 : decode cX3_intersect 21 = .ok (.getfield 12, 3) := by decide +kernel
theorem dX3_intersect_24 : decode cX3_intersect 24 = .ok (.iload_n 1, 1) := by decide +kernel
theorem dX3_intersect_25 : decode cX3_intersect 25 = .ok (.invokevirtual 78, 3) := by decide +kernel
theorem dX3_intersect_28 : decode cX3_intersect 28 = .ok (.aload_n 0, 1) := by decide +kernel
theorem dX3_intersect_29 : decode cX3_intersect 29 = .ok (.getfield 18, 3) := by decide +kernel
theorem dX3_intersect_32 : decode cX3_intersect 32 = .ok (.iload_n 1, 1) := by decide +kernel
theorem dX3_intersect_33 : decode cX3_intersect 33 = .ok (.invokevirtual 78, 3) := by decide +kernel
theorem dX3_intersect_36 : decode cX3_intersect 36 = .ok (.lsub, 1) := by decide +kernel
theorem dX3_intersect_37 : decode cX3_intersect 37 = .ok (.invokevirtual 82, 3) := by decide +kernel
theorem dX3_intersect_40 : decode cX3_intersect 40 = .ok (.iinc 1 1, 3) := by decide +kernel
theorem dX3_intersect_43 : decode cX3_intersect 43 = .ok (.goto (-41), 3) := by decide +kernel
theorem dX3_intersect_46 : decode cX3_intersect 46 = .ok (.aload_n 0, 1) := by decide +kernel
theorem dX3_intersect_47 : decode cX3_intersect 47 = .ok (.aload_n 0, 1) := by decide +kernel
theorem dX3_intersect_48 : decode cX3_intersect 48 = .ok (.invokevirtual 86, 3) := by decide +kernel
theorem dX3_intersect_51 : decode cX3_intersect 51 = .ok (.putfield 41, 3) := by decide +kernel
theorem dX3_intersect_54 : decode cX3_intersect 54 = .ok (.return_, 1) := by decide +kernel
theorem dX3_tryLowEnd_0 : decode cX3_tryLowEnd 0 = .ok (.aload_n 0, 1) := by decide +kernel
theorem dX3_tryLowEnd_1 : decode cX3_tryLowEnd 1 = .ok (.lload_n 1, 1) := by decide +kernel
theorem dX3_tryLowEnd_2 : decode cX3_tryLowEnd 2 = .ok (.invokevirtual 89, 3) := by decide +kernel
theorem dX3_tryLowEnd_5 : decode cX3_tryLowEnd 5 = .ok (.istore_n 3, 1) := by decide +kernel
theorem dX3_tryLowEnd_6 : decode cX3_tryLowEnd 6 = .ok (.iload_n 3, 1) := by decide +kernel
theorem dX3_tryLowEnd_7 : decode cX3_tryLowEnd 7 = .ok (.invokestatic 68, 3) := by decide +kernel
theorem dX3_tryLowEnd_10 : decode cX3_tryLowEnd 10 = .ok (.aload_n 0, 1) := by decide +kernel
theorem dX3_tryLowEnd_11 : decode cX3_tryLowEnd 11 = .ok (.getfield 31, 3) := by decide +kernel
theorem dX3_tryLowEnd_14 : decode cX3_tryLowEnd 14 = .ok (.invokestatic 68, 3) := by decide +kernel
theorem dX3_tryLowEnd_17 : decode cX3_tryLowEnd 17 = .ok (.isub, 1) := by decide +kernel
theorem dX3_tryLowEnd_18 : decode cX3_tryLowEnd 18 = .ok (.istore 4, 2) := by decide +kernel
theorem dX3_tryLowEnd_20 : decode cX3_tryLowEnd 20 = .ok (.iload 4, 2) := by decide +kernel
theorem dX3_tryLowEnd_22 : decode cX3_tryLowEnd 22 = .ok (.ifCond .gt 17, 3) := by decide +kernel
theorem dX3_tryLowEnd_25 : decode cX3_tryLowEnd 25 = .ok (.iload 4, 2) := by decide +kernel
theorem dX3_tryLowEnd_27 : decode cX3_tryLowEnd 27 = .ok (.ifCond .ne 22, 3) := by decide +kernel
theorem dX3_tryLowEnd_30 : decode cX3_tryLowEnd 30 = .ok (.lload_n 1, 1) := by decide +kernel
theorem dX3_tryLowEnd_31 : decode cX3_tryLowEnd 31 = .ok (.aload_n 0, 1) := by decide +kernel
theorem dX3_tryLowEnd_32 : decode cX3_tryLowEnd 32 = .ok (.getfield 37, 3) := by decide +kernel
theorem dX3_tryLowEnd_35 : decode cX3_tryLowEnd 35 = .ok (.lcmp, 1) := by decide +kernel
theorem dX3_tryLowEnd_36 : decode cX3_tryLowEnd 36 = .ok (.ifCond .ge 13, 3) := by decide +kernel
theorem dX3_tryLowEnd_39 : decode cX3_tryLowEnd 39 = .ok (.aload_n 0, 1) := by decide +kernel
theorem dX3_tryLowEnd_40 : decode cX3_tryLowEnd 40 = .ok (.iload_n 3, 1) := by decide +kernel
theorem dX3_tryLowEnd_41 : decode cX3_tryLowEnd 41 = .ok (.putfield 31, 3) := by decide +kernel
theorem dX3_tryLowEnd_44 : decode cX3_tryLowEnd 44 = .ok (.aload_n 0, 1) := by decide +kernel
theorem dX3_tryLowEnd_45 : decode cX3_tryLowEnd 45 = .ok (.lload_n 1, 1) := by decide +kernel
theorem dX3_tryLowEnd_46 : decode cX3_tryLowEnd 46 = .ok (.putfield 37, 3) := by decide +kernel
theorem dX3_tryLowEnd_49 : decode cX3_tryLowEnd 49 = .ok (.return_, 1) := by decide +kernel
theorem dX3_intervalsWith_0 : decode cX3_intervalsWith 0 = .ok (.iconst 0, 1) := by decide +kernel
theorem dX3_intervalsWith_1 : decode cX3_intervalsWith 1 = .ok (.istore_n 3, 1) := by decide +kernel
theorem dX3_intervalsWith_2 : decode cX3_intervalsWith 2 = .ok (.iconst 0, 1) := by decide +kernel
theorem dX3_intervalsWith_3 : decode cX3_intervalsWith 3 = .ok (.istore 4, 2) := by decide +kernel
theorem dX3_intervalsWith_5 : decode cX3_intervalsWith 5 = .ok (.iload 4, 2) := by decide +kernel
theorem dX3_intervalsWith_7 : decode cX3_intervalsWith 7 = .ok (.bipush 8, 2) := by decide +kernel
theorem dX3_intervalsWith_9 : decode cX3_intervalsWith 9 = .ok (.if_icmp .ge 55, 3) := by decide +kernel
theorem dX3_intervalsWith_12 : decode cX3_intervalsWith 12 = .ok (.aload_n 0, 1) := by decide +kernel
theorem dX3_intervalsWith_13 : decode cX3_intervalsWith 13 = .ok (.getfield 27, 3) := by decide +kernel
theorem dX3_intervalsWith_16 : decode cX3_intervalsWith 16 = .ok (.iload 4, 2) := by decide +kernel
theorem dX3_intervalsWith_18 : decode cX3_intervalsWith 18 = .ok (.invokestatic 74, 3) := by decide +kernel
theorem dX3_intervalsWith_21 : decode cX3_intervalsWith 21 = .ok (.ifCond .eq 37, 3) := by decide +kernel
theorem dX3_intervalsWith_24 : decode cX3_intervalsWith 24 = .ok (.lload_n 1, 1) := by decide +kernel
theorem dX3_intervalsWith_25 : decode cX3_intervalsWith 25 = .ok (.aload_n 0, 1) := by decide +kernel
theorem dX3_intervalsWith_26 : decode cX3_intervalsWith 26 = .ok (.getfield 12, 3) := by decide +kernel
theorem dX3_intervalsWith_29 : decode cX3_intervalsWith 29 = .ok (.iload 4, 2) := by decide +kernel
theorem dX3_intervalsWith_31 : decode cX3_intervalsWith 31 = .ok (.invokevirtual 78, 3) := by decide +kernel
theorem dX3_intervalsWith_34 : decode cX3_intervalsWith 34 = .ok (.lsub, 1) := by decide +kernel
theorem dX3_intervalsWith_35 : decode cX3_intervalsWith 35 = .ok (.invokestatic 93, 3) := by decide +kernel
theorem dX3_intervalsWith_38 : decode cX3_intervalsWith 38 = .ok (.aload_n 0, 1) := by decide +kernel
theorem dX3_intervalsWith_39 : decode cX3_intervalsWith 39 = .ok (.getfield 18, 3) := by decide +kernel
theorem dX3_intervalsWith_42 : decode cX3_intervalsWith 42 = .ok (.iload 4, 2) := by decide +kernel
theorem dX3_intervalsWith_44 : decode cX3_intervalsWith 44 = .ok (.invokevirtual 78, 3) := by decide +kernel
theorem dX3_intervalsWith_47 : decode cX3_intervalsWith 47 = .ok (.lcmp, 1) := by decide +kernel
theorem dX3_intervalsWith_48 : decode cX3_intervalsWith 48 = .ok (.ifCond .gt 10, 3) := by decide +kernel
theorem dX3_intervalsWith_51 : decode cX3_intervalsWith 51 = .ok (.iload_n 3, 1) := by decide +kernel
theorem dX3_intervalsWith_52 : decode cX3_intervalsWith 52 = .ok (.iconst 1, 1) := by decide +kernel
theorem dX3_intervalsWith_53 : decode cX3_intervalsWith 53 = .ok (.iload 4, 2) := by decide +kernel
theorem dX3_intervalsWith_55 : decode cX3_intervalsWith 55 = .ok (.ishl, 1) := by decide +kernel
theorem dX3_intervalsWith_56 : decode cX3_intervalsWith 56 = .ok (.ior, 1) := by decide +kernel
theorem dX3_intervalsWith_57 : decode cX3_intervalsWith 57 = .ok (.istore_n 3, 1) := by decide +kernel
theorem dX3_intervalsWith_58 : decode cX3_intervalsWith 58 = .ok (.iinc 4 1, 3) := by decide +kernel
theorem dX3_intervalsWith_61 : decode cX3_intervalsWith 61 = .ok (.goto (-56), 3) := by decide +kernel
theorem dX3_intervalsWith_64 : decode cX3_intervalsWith 64 = .ok (.iload_n 3, 1) := by decide +kernel
theorem dX3_intervalsWith_65 : decode cX3_intervalsWith 65 = .ok (.ireturn, 1) := by decide +kernel
theorem dX3_leastUpperEnd_0 : decode cX3_leastUpperEnd 0 = .ok (.lconst 0, 1) := by decide +kernel
theorem dX3_leastUpperEnd_1 : decode cX3_leastUpperEnd 1 = .ok (.lstore_n 1, 1) := by decide +kernel
theorem dX3_leastUpperEnd_2 : decode cX3_leastUpperEnd 2 = .ok (.iconst 0, 1) := by decide +kernel
theorem dX3_leastUpperEnd_3 : decode cX3_leastUpperEnd 3 = .ok (.istore_n 3, 1) := by decide +kernel
theorem dX3_leastUpperEnd_4 : decode cX3_leastUpperEnd 4 = .ok (.iconst 0, 1) := by decide +kernel
theorem dX3_leastUpperEnd_5 : decode cX3_leastUpperEnd 5 = .ok (.istore 4, 2) := by decide +kernel
theorem dX3_leastUpperEnd_7 : decode cX3_leastUpperEnd 7 = .ok (.iload 4, 2) := by decide +kernel
theorem dX3_leastUpperEnd_9 : decode cX3_leastUpperEnd 9 = .ok (.bipush 8, 2) := by decide +kernel
theorem dX3_leastUpperEnd_11 : decode cX3_leastUpperEnd 11 = .ok (.if_icmp .ge 58, 3) := by decide +kernel
theorem dX3_leastUpperEnd_14 : decode cX3_leastUpperEnd 14 = .ok (.aload_n 0, 1) := by decide +kernel
theorem dX3_leastUpperEnd_15 : decode cX3_leastUpperEnd 15 = .ok (.getfield 12, 3) := by decide +kernel
theorem dX3_leastUpperEnd_18 : decode cX3_leastUpperEnd 18 = .ok (.iload 4, 2) := by decide +kernel
theorem dX3_leastUpperEnd_20 : decode cX3_leastUpperEnd 20 = .ok (.invokevirtual 78, 3) := by decide +kernel
theorem dX3_leastUpperEnd_23 : decode cX3_leastUpperEnd 23 = .ok (.aload_n 0, 1) := by decide +kernel
theorem dX3_leastUpperEnd_24 : decode cX3_leastUpperEnd 24 = .ok (.getfield 18, 3) := by decide +kernel
theorem dX3_leastUpperEnd_27 : decode cX3_leastUpperEnd 27 = .ok (.iload 4, 2) := by decide +kernel
theorem dX3_leastUpperEnd_29 : decode cX3_leastUpperEnd 29 = .ok (.invokevirtual 78, 3) := by decide +kernel
theorem dX3_leastUpperEnd_32 : decode cX3_leastUpperEnd 32 = .ok (.ladd, 1) := by decide +kernel
theorem dX3_leastUpperEnd_33 : decode cX3_leastUpperEnd 33 = .ok (.lstore 5, 2) := by decide +kernel
theorem dX3_leastUpperEnd_35 : decode cX3_leastUpperEnd 35 = .ok (.aload_n 0, 1) := by decide +kernel
theorem dX3_leastUpperEnd_36 : decode cX3_leastUpperEnd 36 = .ok (.getfield 31, 3) := by decide +kernel
theorem dX3_leastUpperEnd_39 : decode cX3_leastUpperEnd 39 = .ok (.iload 4, 2) := by decide +kernel
theorem dX3_leastUpperEnd_41 : decode cX3_leastUpperEnd 41 = .ok (.invokestatic 74, 3) := by decide +kernel
theorem dX3_leastUpperEnd_44 : decode cX3_leastUpperEnd 44 = .ok (.ifCond .eq 19, 3) := by decide +kernel
theorem dX3_leastUpperEnd_47 : decode cX3_leastUpperEnd 47 = .ok (.iload_n 3, 1) := by decide +kernel
theorem dX3_leastUpperEnd_48 : decode cX3_leastUpperEnd 48 = .ok (.ifCond .eq 10, 3) := by decide +kernel
theorem dX3_leastUpperEnd_51 : decode cX3_leastUpperEnd 51 = .ok (.lload 5, 2) := by decide +kernel
theorem dX3_leastUpperEnd_53 : decode cX3_leastUpperEnd 53 = .ok (.lload_n 1, 1) := by decide +kernel
theorem dX3_leastUpperEnd_54 : decode cX3_leastUpperEnd 54 = .ok (.lcmp, 1) := by decide +kernel
theorem dX3_leastUpperEnd_55 : decode cX3_leastUpperEnd 55 = .ok (.ifCond .ge 8, 3) := by decide +kernel
theorem dX3_leastUpperEnd_58 : decode cX3_leastUpperEnd 58 = .ok (.lload 5, 2) := by decide +kernel
theorem dX3_leastUpperEnd_60 : decode cX3_leastUpperEnd 60 = .ok (.lstore_n 1, 1) := by decide +kernel
theorem dX3_leastUpperEnd_61 : decode cX3_leastUpperEnd 61 = .ok (.iconst 1, 1) := by decide +kernel
theorem dX3_leastUpperEnd_62 : decode cX3_leastUpperEnd 62 = .ok (.istore_n 3, 1) := by decide +kernel
theorem dX3_leastUpperEnd_63 : decode cX3_leastUpperEnd 63 = .ok (.iinc 4 1, 3) := by decide +kernel
theorem dX3_leastUpperEnd_66 : decode cX3_leastUpperEnd 66 = .ok (.goto (-59), 3) := by decide +kernel
theorem dX3_leastUpperEnd_69 : decode cX3_leastUpperEnd 69 = .ok (.lload_n 1, 1) := by decide +kernel
theorem dX3_leastUpperEnd_70 : decode cX3_leastUpperEnd 70 = .ok (.lreturn, 1) := by decide +kernel
theorem dX3_cluster_0 : decode cX3_cluster 0 = .ok (.aload_n 0, 1) := by decide +kernel
theorem dX3_cluster_1 : decode cX3_cluster 1 = .ok (.aload_n 0, 1) := by decide +kernel
theorem dX3_cluster_2 : decode cX3_cluster 2 = .ok (.getfield 31, 3) := by decide +kernel
theorem dX3_cluster_5 : decode cX3_cluster 5 = .ok (.putfield 34, 3) := by decide +kernel
theorem dX3_cluster_8 : decode cX3_cluster 8 = .ok (.iconst 0, 1) := by decide +kernel
theorem dX3_cluster_9 : decode cX3_cluster 9 = .ok (.istore_n 1, 1) := by decide +kernel
theorem dX3_cluster_10 : decode cX3_cluster 10 = .ok (.iload_n 1, 1) := by decide +kernel
theorem dX3_cluster_11 : decode cX3_cluster 11 = .ok (.bipush 8, 2) := by decide +kernel
theorem dX3_cluster_13 : decode cX3_cluster 13 = .ok (.if_icmp .ge 54, 3) := by decide +kernel
theorem dX3_cluster_16 : decode cX3_cluster 16 = .ok (.aload_n 0, 1) := by decide +kernel
theorem dX3_cluster_17 : decode cX3_cluster 17 = .ok (.getfield 34, 3) := by decide +kernel
theorem dX3_cluster_20 : decode cX3_cluster 20 = .ok (.invokestatic 68, 3) := by decide +kernel
theorem dX3_cluster_23 : decode cX3_cluster 23 = .ok (.iconst 3, 1) := by decide +kernel
theorem dX3_cluster_24 : decode cX3_cluster 24 = .ok (.if_icmp .gt 4, 3) := by decide +kernel
theorem dX3_cluster_27 : decode cX3_cluster 27 = .ok (.return_, 1) := by decide +kernel
theorem dX3_cluster_28 : decode cX3_cluster 28 = .ok (.aload_n 0, 1) := by decide +kernel
theorem dX3_cluster_29 : decode cX3_cluster 29 = .ok (.invokevirtual 98, 3) := by decide +kernel
theorem dX3_cluster_32 : decode cX3_cluster 32 = .ok (.istore_n 2, 1) := by decide +kernel
theorem dX3_cluster_33 : decode cX3_cluster 33 = .ok (.aload_n 0, 1) := by decide +kernel
theorem dX3_cluster_34 : decode cX3_cluster 34 = .ok (.iload_n 2, 1) := by decide +kernel
theorem dX3_cluster_35 : decode cX3_cluster 35 = .ok (.invokevirtual 101, 3) := by decide +kernel
theorem dX3_cluster_38 : decode cX3_cluster 38 = .ok (.aload_n 0, 1) := by decide +kernel
theorem dX3_cluster_39 : decode cX3_cluster 39 = .ok (.invokevirtual 104, 3) := by decide +kernel
theorem dX3_cluster_42 : decode cX3_cluster 42 = .ok (.lcmp, 1) := by decide +kernel
theorem dX3_cluster_43 : decode cX3_cluster 43 = .ok (.ifCond .gt 4, 3) := by decide +kernel
theorem dX3_cluster_46 : decode cX3_cluster 46 = .ok (.return_, 1) := by decide +kernel
theorem dX3_cluster_47 : decode cX3_cluster 47 = .ok (.aload_n 0, 1) := by decide +kernel
theorem dX3_cluster_48 : decode cX3_cluster 48 = .ok (.dup, 1) := by decide +kernel
theorem dX3_cluster_49 : decode cX3_cluster 49 = .ok (.getfield 34, 3) := by decide +kernel
theorem dX3_cluster_52 : decode cX3_cluster 52 = .ok (.iconst 1, 1) := by decide +kernel
theorem dX3_cluster_53 : decode cX3_cluster 53 = .ok (.iload_n 2, 1) := by decide +kernel
theorem dX3_cluster_54 : decode cX3_cluster 54 = .ok (.ishl, 1) := by decide +kernel
theorem dX3_cluster_55 : decode cX3_cluster 55 = .ok (.iconst (-1), 1) := by decide +kernel
theorem dX3_cluster_56 : decode cX3_cluster 56 = .ok (.ixor, 1) := by decide +kernel
theorem dX3_cluster_57 : decode cX3_cluster 57 = .ok (.iand, 1) := by decide +kernel
theorem dX3_cluster_58 : decode cX3_cluster 58 = .ok (.putfield 34, 3) := by decide +kernel
theorem dX3_cluster_61 : decode cX3_cluster 61 = .ok (.iinc 1 1, 3) := by decide +kernel
theorem dX3_cluster_64 : decode cX3_cluster 64 = .ok (.goto (-54), 3) := by decide +kernel
theorem dX3_cluster_67 : decode cX3_cluster 67 = .ok (.return_, 1) := by decide +kernel
theorem dX3_widestSpread_0 : decode cX3_widestSpread 0 = .ok (.iconst (-1), 1) := by decide +kernel
theorem dX3_widestSpread_1 : decode cX3_widestSpread 1 = .ok (.istore_n 1, 1) := by decide +kernel
theorem dX3_widestSpread_2 : decode cX3_widestSpread 2 = .ok (.iconst 0, 1) := by decide +kernel
theorem dX3_widestSpread_3 : decode cX3_widestSpread 3 = .ok (.istore_n 2, 1) := by decide +kernel
theorem dX3_widestSpread_4 : decode cX3_widestSpread 4 = .ok (.iload_n 2, 1) := by decide +kernel
theorem dX3_widestSpread_5 : decode cX3_widestSpread 5 = .ok (.bipush 8, 2) := by decide +kernel
theorem dX3_widestSpread_7 : decode cX3_widestSpread 7 = .ok (.if_icmp .ge 41, 3) := by decide +kernel
theorem dX3_widestSpread_10 : decode cX3_widestSpread 10 = .ok (.aload_n 0, 1) := by decide +kernel
theorem dX3_widestSpread_11 : decode cX3_widestSpread 11 = .ok (.getfield 34, 3) := by decide +kernel
theorem dX3_widestSpread_14 : decode cX3_widestSpread 14 = .ok (.iload_n 2, 1) := by decide +kernel
theorem dX3_widestSpread_15 : decode cX3_widestSpread 15 = .ok (.invokestatic 74, 3) := by decide +kernel
theorem dX3_widestSpread_18 : decode cX3_widestSpread 18 = .ok (.ifCond .eq 24, 3) := by decide +kernel
theorem dX3_widestSpread_21 : decode cX3_widestSpread 21 = .ok (.iload_n 1, 1) := by decide +kernel
theorem dX3_widestSpread_22 : decode cX3_widestSpread 22 = .ok (.iconst (-1), 1) := by decide +kernel
theorem dX3_widestSpread_23 : decode cX3_widestSpread 23 = .ok (.if_icmp .eq 17, 3) := by decide +kernel
theorem dX3_widestSpread_26 : decode cX3_widestSpread 26 = .ok (.aload_n 0, 1) := by decide +kernel
theorem dX3_widestSpread_27 : decode cX3_widestSpread 27 = .ok (.iload_n 2, 1) := by decide +kernel
theorem dX3_widestSpread_28 : decode cX3_widestSpread 28 = .ok (.invokevirtual 101, 3) := by decide +kernel
theorem dX3_widestSpread_31 : decode cX3_widestSpread 31 = .ok (.aload_n 0, 1) := by decide +kernel
theorem dX3_widestSpread_32 : decode cX3_widestSpread 32 = .ok (.iload_n 1, 1) := by decide +kernel
theorem dX3_widestSpread_33 : decode cX3_widestSpread 33 = .ok (.invokevirtual 101, 3) := by decide +kernel
theorem dX3_widestSpread_36 : decode cX3_widestSpread 36 = .ok (.lcmp, 1) := by decide +kernel
theorem dX3_widestSpread_37 : decode cX3_widestSpread 37 = .ok (.ifCond .lt 5, 3) := by decide +kernel
theorem dX3_widestSpread_40 : decode cX3_widestSpread 40 = .ok (.iload_n 2, 1) := by decide +kernel
theorem dX3_widestSpread_41 : decode cX3_widestSpread 41 = .ok (.istore_n 1, 1) := by decide +kernel
theorem dX3_widestSpread_42 : decode cX3_widestSpread 42 = .ok (.iinc 2 1, 3) := by decide +kernel
theorem dX3_widestSpread_45 : decode cX3_widestSpread 45 = .ok (.goto (-41), 3) := by decide +kernel
theorem dX3_widestSpread_48 : decode cX3_widestSpread 48 = .ok (.iload_n 1, 1) := by decide +kernel
theorem dX3_widestSpread_49 : decode cX3_widestSpread 49 = .ok (.ireturn, 1) := by decide +kernel
theorem dX3_spread_0 : decode cX3_spread 0 = .ok (.aload_n 0, 1) := by decide +kernel
theorem dX3_spread_1 : decode cX3_spread 1 = .ok (.getfield 34, 3) := by decide +kernel
theorem dX3_spread_4 : decode cX3_spread 4 = .ok (.invokestatic 68, 3) := by decide +kernel
theorem dX3_spread_7 : decode cX3_spread 7 = .ok (.iconst 1, 1) := by decide +kernel
theorem dX3_spread_8 : decode cX3_spread 8 = .ok (.isub, 1) := by decide +kernel
theorem dX3_spread_9 : decode cX3_spread 9 = .ok (.istore_n 2, 1) := by decide +kernel
theorem dX3_spread_10 : decode cX3_spread 10 = .ok (.iload_n 2, 1) := by decide +kernel
theorem dX3_spread_11 : decode cX3_spread 11 = .ok (.iconst 1, 1) := by decide +kernel
theorem dX3_spread_12 : decode cX3_spread 12 = .ok (.if_icmp .ge 5, 3) := by decide +kernel
theorem dX3_spread_15 : decode cX3_spread 15 = .ok (.lconst 0, 1) := by decide +kernel
theorem dX3_spread_16 : decode cX3_spread 16 = .ok (.lreturn, 1) := by decide +kernel
theorem dX3_spread_17 : decode cX3_spread 17 = .ok (.lconst 0, 1) := by decide +kernel
theorem dX3_spread_18 : decode cX3_spread 18 = .ok (.lstore_n 3, 1) := by decide +kernel
theorem dX3_spread_19 : decode cX3_spread 19 = .ok (.iconst 0, 1) := by decide +kernel
theorem dX3_spread_20 : decode cX3_spread 20 = .ok (.istore 5, 2) := by decide +kernel
theorem dX3_spread_22 : decode cX3_spread 22 = .ok (.iload 5, 2) := by decide +kernel
theorem dX3_spread_24 : decode cX3_spread 24 = .ok (.bipush 8, 2) := by decide +kernel
theorem dX3_spread_26 : decode cX3_spread 26 = .ok (.if_icmp .ge 45, 3) := by decide +kernel
theorem dX3_spread_29 : decode cX3_spread 29 = .ok (.aload_n 0, 1) := by decide +kernel
theorem dX3_spread_30 : decode cX3_spread 30 = .ok (.getfield 34, 3) := by decide +kernel
theorem dX3_spread_33 : decode cX3_spread 33 = .ok (.iload 5, 2) := by decide +kernel
theorem dX3_spread_35 : decode cX3_spread 35 = .ok (.invokestatic 74, 3) := by decide +kernel
theorem dX3_spread_38 : decode cX3_spread 38 = .ok (.ifCond .eq 27, 3) := by decide +kernel
theorem dX3_spread_41 : decode cX3_spread 41 = .ok (.lload_n 3, 1) := by decide +kernel
theorem dX3_spread_42 : decode cX3_spread 42 = .ok (.aload_n 0, 1) := by decide +kernel
theorem dX3_spread_43 : decode cX3_spread 43 = .ok (.getfield 12, 3) := by decide +kernel
theorem dX3_spread_46 : decode cX3_spread 46 = .ok (.iload 5, 2) := by decide +kernel
theorem dX3_spread_48 : decode cX3_spread 48 = .ok (.invokevirtual 78, 3) := by decide +kernel
theorem dX3_spread_51 : decode cX3_spread 51 = .ok (.aload_n 0, 1) := by decide +kernel
theorem dX3_spread_52 : decode cX3_spread 52 = .ok (.getfield 12, 3) := by decide +kernel
theorem dX3_spread_55 : decode cX3_spread 55 = .ok (.iload_n 1, 1) := by decide +kernel
theorem dX3_spread_56 : decode cX3_spread 56 = .ok (.invokevirtual 78, 3) := by decide +kernel
theorem dX3_spread_59 : decode cX3_spread 59 = .ok (.lsub, 1) := by decide +kernel
theorem dX3_spread_60 : decode cX3_spread 60 = .ok (.invokestatic 93, 3) := by decide +kernel
theorem dX3_spread_63 : decode cX3_spread 63 = .ok (.ladd, 1) := by decide +kernel
theorem dX3_spread_64 : decode cX3_spread 64 = .ok (.lstore_n 3, 1) := by decide +kernel
theorem dX3_spread_65 : decode cX3_spread 65 = .ok (.iinc 5 1, 3) := by decide +kernel
theorem dX3_spread_68 : decode cX3_spread 68 = .ok (.goto (-46), 3) := by decide +kernel
theorem dX3_spread_71 : decode cX3_spread 71 = .ok (.lload_n 3, 1) := by decide +kernel
theorem dX3_spread_72 : decode cX3_spread 72 = .ok (.iload_n 2, 1) := by decide +kernel
theorem dX3_spread_73 : decode cX3_spread 73 = .ok (.i2l, 1) := by decide +kernel
theorem dX3_spread_74 : decode cX3_spread 74 = .ok (.ldiv, 1) := by decide +kernel
theorem dX3_spread_75 : decode cX3_spread 75 = .ok (.lreturn, 1) := by decide +kernel
theorem dX3_leastJitter_0 : decode cX3_leastJitter 0 = .ok (.lconst 0, 1) := by decide +kernel
theorem dX3_leastJitter_1 : decode cX3_leastJitter 1 = .ok (.lstore_n 1, 1) := by decide +kernel
theorem dX3_leastJitter_2 : decode cX3_leastJitter 2 = .ok (.iconst 0, 1) := by decide +kernel
theorem dX3_leastJitter_3 : decode cX3_leastJitter 3 = .ok (.istore_n 3, 1) := by decide +kernel
theorem dX3_leastJitter_4 : decode cX3_leastJitter 4 = .ok (.iconst 0, 1) := by decide +kernel
theorem dX3_leastJitter_5 : decode cX3_leastJitter 5 = .ok (.istore 4, 2) := by decide +kernel
theorem dX3_leastJitter_7 : decode cX3_leastJitter 7 = .ok (.iload 4, 2) := by decide +kernel
theorem dX3_leastJitter_9 : decode cX3_leastJitter 9 = .ok (.bipush 8, 2) := by decide +kernel
theorem dX3_leastJitter_11 : decode cX3_leastJitter 11 = .ok (.if_icmp .ge 51, 3) := by decide +kernel
theorem dX3_leastJitter_14 : decode cX3_leastJitter 14 = .ok (.aload_n 0, 1) := by decide +kernel
theorem dX3_leastJitter_15 : decode cX3_leastJitter 15 = .ok (.getfield 34, 3) := by decide +kernel
theorem dX3_leastJitter_18 : decode cX3_leastJitter 18 = .ok (.iload 4, 2) := by decide +kernel
theorem dX3_leastJitter_20 : decode cX3_leastJitter 20 = .ok (.invokestatic 74, 3) := by decide +kernel
theorem dX3_leastJitter_23 : decode cX3_leastJitter 23 = .ok (.ifCond .eq 33, 3) := by decide +kernel
theorem dX3_leastJitter_26 : decode cX3_leastJitter 26 = .ok (.iload_n 3, 1) := by decide +kernel
theorem dX3_leastJitter_27 : decode cX3_leastJitter 27 = .ok (.ifCond .eq 17, 3) := by decide +kernel
theorem dX3_leastJitter_30 : decode cX3_leastJitter 30 = .ok (.aload_n 0, 1) := by decide +kernel
theorem dX3_leastJitter_31 : decode cX3_leastJitter 31 = .ok (.getfield 21, 3) := by decide +kernel
theorem dX3_leastJitter_34 : decode cX3_leastJitter 34 = .ok (.iload 4, 2) := by decide +kernel
theorem dX3_leastJitter_36 : decode cX3_leastJitter 36 = .ok (.invokevirtual 78, 3) := by decide +kernel
theorem dX3_leastJitter_39 : decode cX3_leastJitter 39 = .ok (.lload_n 1, 1) := by decide +kernel
theorem dX3_leastJitter_40 : decode cX3_leastJitter 40 = .ok (.lcmp, 1) := by decide +kernel
theorem dX3_leastJitter_41 : decode cX3_leastJitter 41 = .ok (.ifCond .ge 15, 3) := by decide +kernel
theorem dX3_leastJitter_44 : decode cX3_leastJitter 44 = .ok (.aload_n 0, 1) := by decide +kernel
theorem dX3_leastJitter_45 : decode cX3_leastJitter 45 = .ok (.getfield 21, 3) := by decide +kernel
theorem dX3_leastJitter_48 : decode cX3_leastJitter 48 = .ok (.iload 4, 2) := by decide +kernel
theorem dX3_leastJitter_50 : decode cX3_leastJitter 50 = .ok (.invokevirtual 78, 3) := by decide +kernel
theorem dX3_leastJitter_53 : decode cX3_leastJitter 53 = .ok (.lstore_n 1, 1) := by decide +kernel
theorem dX3_leastJitter_54 : decode cX3_leastJitter 54 = .ok (.iconst 1, 1) := by decide +kernel
theorem dX3_leastJitter_55 : decode cX3_leastJitter 55 = .ok (.istore_n 3, 1) := by decide +kernel
theorem dX3_leastJitter_56 : decode cX3_leastJitter 56 = .ok (.iinc 4 1, 3) := by decide +kernel
theorem dX3_leastJitter_59 : decode cX3_leastJitter 59 = .ok (.goto (-52), 3) := by decide +kernel
theorem dX3_leastJitter_62 : decode cX3_leastJitter 62 = .ok (.lload_n 1, 1) := by decide +kernel
theorem dX3_leastJitter_63 : decode cX3_leastJitter 63 = .ok (.lreturn, 1) := by decide +kernel
theorem dX3_weightedOffset_0 : decode cX3_weightedOffset 0 = .ok (.lconst 0, 1) := by decide +kernel
theorem dX3_weightedOffset_1 : decode cX3_weightedOffset 1 = .ok (.lstore_n 1, 1) := by decide +kernel
theorem dX3_weightedOffset_2 : decode cX3_weightedOffset 2 = .ok (.lconst 0, 1) := by decide +kernel
theorem dX3_weightedOffset_3 : decode cX3_weightedOffset 3 = .ok (.lstore_n 3, 1) := by decide +kernel
theorem dX3_weightedOffset_4 : decode cX3_weightedOffset 4 = .ok (.iconst 0, 1) := by decide +kernel
theorem dX3_weightedOffset_5 : decode cX3_weightedOffset 5 = .ok (.istore 5, 2) := by decide +kernel
theorem dX3_weightedOffset_7 : decode cX3_weightedOffset 7 = .ok (.iload 5, 2) := by decide +kernel
theorem dX3_weightedOffset_9 : decode cX3_weightedOffset 9 = .ok (.bipush 8, 2) := by decide +kernel
theorem dX3_weightedOffset_11 : decode cX3_weightedOffset 11 = .ok (.if_icmp .ge 49, 3) := by decide +kernel
theorem dX3_weightedOffset_14 : decode cX3_weightedOffset 14 = .ok (.aload_n 0, 1) := by decide +kernel
theorem dX3_weightedOffset_15 : decode cX3_weightedOffset 15 = .ok (.getfield 34, 3) := by decide +kernel
theorem dX3_weightedOffset_18 : decode cX3_weightedOffset 18 = .ok (.iload 5, 2) := by decide +kernel
theorem dX3_weightedOffset_20 : decode cX3_weightedOffset 20 = .ok (.invokestatic 74, 3) := by decide +kernel
theorem dX3_weightedOffset_23 : decode cX3_weightedOffset 23 = .ok (.ifCond .eq 31, 3) := by decide +kernel
theorem dX3_weightedOffset_26 : decode cX3_weightedOffset 26 = .ok (.lload_n 1, 1) := by decide +kernel
theorem dX3_weightedOffset_27 : decode cX3_weightedOffset 27 = .ok (.aload_n 0, 1) := by decide +kernel
theorem dX3_weightedOffset_28 : decode cX3_weightedOffset 28 = .ok (.iload 5, 2) := by decide +kernel
theorem dX3_weightedOffset_30 : decode cX3_weightedOffset 30 = .ok (.invokevirtual 107, 3) := by decide +kernel
theorem dX3_weightedOffset_33 : decode cX3_weightedOffset 33 = .ok (.aload_n 0, 1) := by decide +kernel
theorem dX3_weightedOffset_34 : decode cX3_weightedOffset 34 = .ok (.getfield 12, 3) := by decide +kernel
theorem dX3_weightedOffset_37 : decode cX3_weightedOffset 37 = .ok (.iload 5, 2) := by decide +kernel
theorem dX3_weightedOffset_39 : decode cX3_weightedOffset 39 = .ok (.invokevirtual 78, 3) := by decide +kernel
theorem dX3_weightedOffset_42 : decode cX3_weightedOffset 42 = .ok (.lmul, 1) := by decide +kernel
theorem dX3_weightedOffset_43 : decode cX3_weightedOffset 43 = .ok (.ladd, 1) := by decide +kernel
theorem dX3_weightedOffset_44 : decode cX3_weightedOffset 44 = .ok (.lstore_n 1, 1) := by decide +kernel
theorem dX3_weightedOffset_45 : decode cX3_weightedOffset 45 = .ok (.lload_n 3, 1) := by decide +kernel
theorem dX3_weightedOffset_46 : decode cX3_weightedOffset 46 = .ok (.aload_n 0, 1) := by decide +kernel
theorem dX3_weightedOffset_47 : decode cX3_weightedOffset 47 = .ok (.iload 5, 2) := by decide +kernel
theorem dX3_weightedOffset_49 : decode cX3_weightedOffset 49 = .ok (.invokevirtual 107, 3) := by decide +kernel
theorem dX3_weightedOffset_52 : decode cX3_weightedOffset 52 = .ok (.ladd, 1) := by decide +kernel
theorem dX3_weightedOffset_53 : decode cX3_weightedOffset 53 = .ok (.lstore_n 3, 1) := by decide +kernel
theorem dX3_weightedOffset_54 : decode cX3_weightedOffset 54 = .ok (.iinc 5 1, 3) := by decide +kernel
theorem dX3_weightedOffset_57 : decode cX3_weightedOffset 57 = .ok (.goto (-50), 3) := by decide +kernel
theorem dX3_weightedOffset_60 : decode cX3_weightedOffset 60 = .ok (.lload_n 3, 1) := by decide +kernel
theorem dX3_weightedOffset_61 : decode cX3_weightedOffset 61 = .ok (.lconst 0, 1) := by decide +kernel
theorem dX3_weightedOffset_62 : decode cX3_weightedOffset 62 = .ok (.lcmp, 1) := by decide +kernel
theorem dX3_weightedOffset_63 : decode cX3_weightedOffset 63 = .ok (.ifCond .le 11, 3) := by decide +kernel
theorem dX3_weightedOffset_66 : decode cX3_weightedOffset 66 = .ok (.lload_n 1, 1) := by decide +kernel
theorem dX3_weightedOffset_67 : decode cX3_weightedOffset 67 = .ok (.lload_n 3, 1) := by decide +kernel
theorem dX3_weightedOffset_68 : decode cX3_weightedOffset 68 = .ok (.invokestatic 110, 3) := by decide +kernel
theorem dX3_weightedOffset_71 : decode cX3_weightedOffset 71 = .ok (.goto 4, 3) := by decide +kernel
theorem dX3_weightedOffset_74 : decode cX3_weightedOffset 74 = .ok (.lconst 0, 1) := by decide +kernel
theorem dX3_weightedOffset_75 : decode cX3_weightedOffset 75 = .ok (.lreturn, 1) := by decide +kernel
theorem dX3_weight_0 : decode cX3_weight 0 = .ok (.aload_n 0, 1) := by decide +kernel
theorem dX3_weight_1 : decode cX3_weight 1 = .ok (.getfield 18, 3) := by decide +kernel
theorem dX3_weight_4 : decode cX3_weight 4 = .ok (.iload_n 1, 1) := by decide +kernel
theorem dX3_weight_5 : decode cX3_weight 5 = .ok (.invokevirtual 78, 3) := by decide +kernel
theorem dX3_weight_8 : decode cX3_weight 8 = .ok (.lconst 1, 1) := by decide +kernel
theorem dX3_weight_9 : decode cX3_weight 9 = .ok (.ladd, 1) := by decide +kernel
theorem dX3_weight_10 : decode cX3_weight 10 = .ok (.lstore_n 2, 1) := by decide +kernel
theorem dX3_weight_11 : decode cX3_weight 11 = .ok (.lload_n 2, 1) := by decide +kernel
theorem dX3_weight_12 : decode cX3_weight 12 = .ok (.lconst 0, 1) := by decide +kernel
theorem dX3_weight_13 : decode cX3_weight 13 = .ok (.lcmp, 1) := by decide +kernel
theorem dX3_weight_14 : decode cX3_weight 14 = .ok (.ifCond .le 15, 3) := by decide +kernel
theorem dX3_weight_17 : decode cX3_weight 17 = .ok (.lconst 1, 1) := by decide +kernel
theorem dX3_weight_18 : decode cX3_weight 18 = .ok (.ldc2_w 114, 3) := by decide +kernel
theorem dX3_weight_21 : decode cX3_weight 21 = .ok (.lload_n 2, 1) := by decide +kernel
theorem dX3_weight_22 : decode cX3_weight 22 = .ok (.ldiv, 1) := by decide +kernel
theorem dX3_weight_23 : decode cX3_weight 23 = .ok (.invokestatic 116, 3) := by decide +kernel
theorem dX3_weight_26 : decode cX3_weight 26 = .ok (.goto 4, 3) := by decide +kernel
theorem dX3_weight_29 : decode cX3_weight 29 = .ok (.lconst 1, 1) := by decide +kernel
theorem dX3_weight_30 : decode cX3_weight 30 = .ok (.lreturn, 1) := by decide +kernel
theorem dX3_preferred_0 : decode cX3_preferred 0 = .ok (.iconst (-1), 1) := by decide +kernel
theorem dX3_preferred_1 : decode cX3_preferred 1 = .ok (.istore_n 1, 1) := by decide +kernel
theorem dX3_preferred_2 : decode cX3_preferred 2 = .ok (.iconst 0, 1) := by decide +kernel
theorem dX3_preferred_3 : decode cX3_preferred 3 = .ok (.istore_n 2, 1) := by decide +kernel
theorem dX3_preferred_4 : decode cX3_preferred 4 = .ok (.iload_n 2, 1) := by decide +kernel
theorem dX3_preferred_5 : decode cX3_preferred 5 = .ok (.bipush 8, 2) := by decide +kernel
theorem dX3_preferred_7 : decode cX3_preferred 7 = .ok (.if_icmp .ge 36, 3) := by decide +kernel
theorem dX3_preferred_10 : decode cX3_preferred 10 = .ok (.aload_n 0, 1) := by decide +kernel
theorem dX3_preferred_11 : decode cX3_preferred 11 = .ok (.getfield 34, 3) := by decide +kernel
theorem dX3_preferred_14 : decode cX3_preferred 14 = .ok (.iload_n 2, 1) := by decide +kernel
theorem dX3_preferred_15 : decode cX3_preferred 15 = .ok (.invokestatic 74, 3) := by decide +kernel
theorem dX3_preferred_18 : decode cX3_preferred 18 = .ok (.ifCond .eq 19, 3) := by decide +kernel
theorem dX3_preferred_21 : decode cX3_preferred 21 = .ok (.iload_n 1, 1) := by decide +kernel
theorem dX3_preferred_22 : decode cX3_preferred 22 = .ok (.iconst (-1), 1) := by decide +kernel
theorem dX3_preferred_23 : decode cX3_preferred 23 = .ok (.if_icmp .eq 12, 3) := by decide +kernel
theorem dX3_preferred_26 : decode cX3_preferred 26 = .ok (.aload_n 0, 1) := by decide +kernel
theorem dX3_preferred_27 : decode cX3_preferred 27 = .ok (.iload_n 2, 1) := by decide +kernel
theorem dX3_preferred_28 : decode cX3_preferred 28 = .ok (.iload_n 1, 1) := by decide +kernel
theorem dX3_preferred_29 : decode cX3_preferred 29 = .ok (.invokevirtual 119, 3) := by decide +kernel
theorem dX3_preferred_32 : decode cX3_preferred 32 = .ok (.ifCond .eq 5, 3) := by decide +kernel
theorem dX3_preferred_35 : decode cX3_preferred 35 = .ok (.iload_n 2, 1) := by decide +kernel
theorem dX3_preferred_36 : decode cX3_preferred 36 = .ok (.istore_n 1, 1) := by decide +kernel
theorem dX3_preferred_37 : decode cX3_preferred 37 = .ok (.iinc 2 1, 3) := by decide +kernel
theorem dX3_preferred_40 : decode cX3_preferred 40 = .ok (.goto (-36), 3) := by decide +kernel
theorem dX3_preferred_43 : decode cX3_preferred 43 = .ok (.iload_n 1, 1) := by decide +kernel
theorem dX3_preferred_44 : decode cX3_preferred 44 = .ok (.ireturn, 1) := by decide +kernel
theorem dX3_isBetter_0 : decode cX3_isBetter 0 = .ok (.aload_n 0, 1) := by decide +kernel
theorem dX3_isBetter_1 : decode cX3_isBetter 1 = .ok (.getfield 24, 3) := by decide +kernel
theorem dX3_isBetter_4 : decode cX3_isBetter 4 = .ok (.iload_n 1, 1) := by decide +kernel
theorem dX3_isBetter_5 : decode cX3_isBetter 5 = .ok (.invokevirtual 78, 3) := by decide +kernel
theorem dX3_isBetter_8 : decode cX3_isBetter 8 = .ok (.aload_n 0, 1) := by decide +kernel
theorem dX3_isBetter_9 : decode cX3_isBetter 9 = .ok (.getfield 24, 3) := by decide +kernel
theorem dX3_isBetter_12 : decode cX3_isBetter 12 = .ok (.iload_n 2, 1) := by decide +kernel
theorem dX3_isBetter_13 : decode cX3_isBetter 13 = .ok (.invokevirtual 78, 3) := by decide +kernel
theorem dX3_isBetter_16 : decode cX3_isBetter 16 = .ok (.lcmp, 1) := by decide +kernel
theorem dX3_isBetter_17 : decode cX3_isBetter 17 = .ok (.ifCond .eq 29, 3) := by decide +kernel
theorem dX3_isBetter_20 : decode cX3_isBetter 20 = .ok (.aload_n 0, 1) := by decide +kernel
theorem dX3_isBetter_21 : decode cX3_isBetter 21 = .ok (.getfield 24, 3) := by decide +kernel
theorem dX3_isBetter_24 : decode cX3_isBetter 24 = .ok (.iload_n 1, 1) := by decide +kernel
theorem dX3_isBetter_25 : decode cX3_isBetter 25 = .ok (.invokevirtual 78, 3) := by decide +kernel
theorem dX3_isBetter_28 : decode cX3_isBetter 28 = .ok (.aload_n 0, 1) := by decide +kernel
theorem dX3_isBetter_29 : decode cX3_isBetter 29 = .ok (.getfield 24, 3) := by decide +kernel
theorem dX3_isBetter_32 : decode cX3_isBetter 32 = .ok (.iload_n 2, 1) := by decide +kernel
theorem dX3_isBetter_33 : decode cX3_isBetter 33 = .ok (.invokevirtual 78, 3) := by decide +kernel
theorem dX3_isBetter_36 : decode cX3_isBetter 36 = .ok (.lcmp, 1) := by decide +kernel
theorem dX3_isBetter_37 : decode cX3_isBetter 37 = .ok (.ifCond .ge 7, 3) := by decide +kernel
theorem dX3_isBetter_40 : decode cX3_isBetter 40 = .ok (.iconst 1, 1) := by decide +kernel
theorem dX3_isBetter_41 : decode cX3_isBetter 41 = .ok (.goto 4, 3) := by decide +kernel
theorem dX3_isBetter_44 : decode cX3_isBetter 44 = .ok (.iconst 0, 1) := by decide +kernel
theorem dX3_isBetter_45 : decode cX3_isBetter 45 = .ok (.ireturn, 1) := by decide +kernel
theorem dX3_isBetter_46 : decode cX3_isBetter 46 = .ok (.aload_n 0, 1) := by decide +kernel
theorem dX3_isBetter_47 : decode cX3_isBetter 47 = .ok (.getfield 18, 3) := by decide +kernel
theorem dX3_isBetter_50 : decode cX3_isBetter 50 = .ok (.iload_n 1, 1) := by decide +kernel
theorem dX3_isBetter_51 : decode cX3_isBetter 51 = .ok (.invokevirtual 78, 3) := by decide +kernel
theorem dX3_isBetter_54 : decode cX3_isBetter 54 = .ok (.aload_n 0, 1) := by decide +kernel
theorem dX3_isBetter_55 : decode cX3_isBetter 55 = .ok (.getfield 18, 3) := by decide +kernel
theorem dX3_isBetter_58 : decode cX3_isBetter 58 = .ok (.iload_n 2, 1) := by decide +kernel
theorem dX3_isBetter_59 : decode cX3_isBetter 59 = .ok (.invokevirtual 78, 3) := by decide +kernel
theorem dX3_isBetter_62 : decode cX3_isBetter 62 = .ok (.lcmp, 1) := by decide +kernel
theorem dX3_isBetter_63 : decode cX3_isBetter 63 = .ok (.ifCond .ge 7, 3) := by decide +kernel
theorem dX3_isBetter_66 : decode cX3_isBetter 66 = .ok (.iconst 1, 1) := by decide +kernel
theorem dX3_isBetter_67 : decode cX3_isBetter 67 = .ok (.goto 4, 3) := by decide +kernel
theorem dX3_isBetter_70 : decode cX3_isBetter 70 = .ok (.iconst 0, 1) := by decide +kernel
theorem dX3_isBetter_71 : decode cX3_isBetter 71 = .ok (.ireturn, 1) := by decide +kernel
theorem dX3_contains_0 : decode cX3_contains 0 = .ok (.iload_n 0, 1) := by decide +kernel
theorem dX3_contains_1 : decode cX3_contains 1 = .ok (.iload_n 1, 1) := by decide +kernel
theorem dX3_contains_2 : decode cX3_contains 2 = .ok (.ishr, 1) := by decide +kernel
theorem dX3_contains_3 : decode cX3_contains 3 = .ok (.iconst 1, 1) := by decide +kernel
theorem dX3_contains_4 : decode cX3_contains 4 = .ok (.iand, 1) := by decide +kernel
theorem dX3_contains_5 : decode cX3_contains 5 = .ok (.ifCond .eq 7, 3) := by decide +kernel
theorem dX3_contains_8 : decode cX3_contains 8 = .ok (.iconst 1, 1) := by decide +kernel
theorem dX3_contains_9 : decode cX3_contains 9 = .ok (.goto 4, 3) := by decide +kernel
theorem dX3_contains_12 : decode cX3_contains 12 = .ok (.iconst 0, 1) := by decide +kernel
theorem dX3_contains_13 : decode cX3_contains 13 = .ok (.ireturn, 1) := by decide +kernel
theorem dX4_init_0 : decode cX4_init 0 = .ok (.aload_n 0, 1) := by decide +kernel
theorem dX4_init_1 : decode cX4_init 1 = .ok (.invokespecial 3, 3) := by decide +kernel
theorem dX4_init_4 : decode cX4_init 4 = .ok (.aload_n 0, 1) := by decide +kernel
theorem dX4_init_5 : decode cX4_init 5 = .ok (.new 9, 3) := by decide +kernel
theorem dX4_init_8 : decode cX4_init 8 = .ok (.dup, 1) := by decide +kernel
theorem dX4_init_9 : decode cX4_init 9 = .ok (.invokespecial 11, 3) := by decide +kernel
theorem dX4_init_12 : decode cX4_init 12 = .ok (.putfield 12, 3) := by decide +kernel
theorem dX4_init_15 : decode cX4_init 15 = .ok (.aload_n 0, 1) := by decide +kernel
theorem dX4_init_16 : decode cX4_init 16 = .ok (.new 9, 3) := by decide +kernel
theorem dX4_init_19 : decode cX4_init 19 = .ok (.dup, 1) := by decide +kernel
theorem dX4_init_20 : decode cX4_init 20 = .ok (.invokespecial 11, 3) := by decide +kernel
theorem dX4_init_23 : decode cX4_init 23 = .ok (.putfield 18, 3) := by decide +kernel
theorem dX4_init_26 : decode cX4_init 26 = .ok (.aload_n 0, 1) := by decide +kernel
theorem dX4_init_27 : decode cX4_init 27 = .ok (.new 9, 3) := by decide +kernel
theorem dX4_init_30 : decode cX4_init 30 = .ok (.dup, 1) := by decide +kernel
theorem dX4_init_31 : decode cX4_init 31 = .ok (.invokespecial 11, 3) := by decide +kernel
theorem dX4_init_34 : decode cX4_init 34 = .ok (.putfield 21, 3) := by decide +kernel
theorem dX4_init_37 : decode cX4_init 37 = .ok (.return_, 1) := by decide +kernel
theorem dX4_settle_0 : decode cX4_settle 0 = .ok (.aload_n 0, 1) := by decide +kernel
theorem dX4_settle_1 : decode cX4_settle 1 = .ok (.iload_n 1, 1) := by decide +kernel
theorem dX4_settle_2 : decode cX4_settle 2 = .ok (.putfield 24, 3) := by decide +kernel
theorem dX4_settle_5 : decode cX4_settle 5 = .ok (.aload_n 0, 1) := by decide +kernel
theorem dX4_settle_6 : decode cX4_settle 6 = .ok (.iload_n 2, 1) := by decide +kernel
theorem dX4_settle_7 : decode cX4_settle 7 = .ok (.putfield 28, 3) := by decide +kernel
theorem dX4_settle_10 : decode cX4_settle 10 = .ok (.aload_n 0, 1) := by decide +kernel
theorem dX4_settle_11 : decode cX4_settle 11 = .ok (.iload_n 3, 1) := by decide +kernel
theorem dX4_settle_12 : decode cX4_settle 12 = .ok (.i2l, 1) := by decide +kernel
theorem dX4_settle_13 : decode cX4_settle 13 = .ok (.putfield 31, 3) := by decide +kernel
theorem dX4_settle_16 : decode cX4_settle 16 = .ok (.aload_n 0, 1) := by decide +kernel
theorem dX4_settle_17 : decode cX4_settle 17 = .ok (.iload 4, 2) := by decide +kernel
theorem dX4_settle_19 : decode cX4_settle 19 = .ok (.i2l, 1) := by decide +kernel
theorem dX4_settle_20 : decode cX4_settle 20 = .ok (.putfield 35, 3) := by decide +kernel
theorem dX4_settle_23 : decode cX4_settle 23 = .ok (.aload_n 0, 1) := by decide +kernel
theorem dX4_settle_24 : decode cX4_settle 24 = .ok (.invokevirtual 38, 3) := by decide +kernel
theorem dX4_settle_27 : decode cX4_settle 27 = .ok (.return_, 1) := by decide +kernel
theorem dX4_forget_0 : decode cX4_forget 0 = .ok (.aload_n 0, 1) := by decide +kernel
theorem dX4_forget_1 : decode cX4_forget 1 = .ok (.iconst 0, 1) := by decide +kernel
theorem dX4_forget_2 : decode cX4_forget 2 = .ok (.putfield 41, 3) := by decide +kernel
theorem dX4_forget_5 : decode cX4_forget 5 = .ok (.aload_n 0, 1) := by decide +kernel
theorem dX4_forget_6 : decode cX4_forget 6 = .ok (.iconst 0, 1) := by decide +kernel
theorem dX4_forget_7 : decode cX4_forget 7 = .ok (.putfield 44, 3) := by decide +kernel
theorem dX4_forget_10 : decode cX4_forget 10 = .ok (.return_, 1) := by decide +kernel
theorem dX4_kept_0 : decode cX4_kept 0 = .ok (.aload_n 0, 1) := by decide +kernel
theorem dX4_kept_1 : decode cX4_kept 1 = .ok (.getfield 41, 3) := by decide +kernel
theorem dX4_kept_4 : decode cX4_kept 4 = .ok (.ireturn, 1) := by decide +kernel
theorem dX4_ownStratum_0 : decode cX4_ownStratum 0 = .ok (.aload_n 0, 1) := by decide +kernel
theorem dX4_ownStratum_1 : decode cX4_ownStratum 1 = .ok (.getfield 24, 3) := by decide +kernel
theorem dX4_ownStratum_4 : decode cX4_ownStratum 4 = .ok (.ireturn, 1) := by decide +kernel
theorem dX4_changeError_0 : decode cX4_changeError 0 = .ok (.aload_n 0, 1) := by decide +kernel
theorem dX4_changeError_1 : decode cX4_changeError 1 = .ok (.getfield 28, 3) := by decide +kernel
theorem dX4_changeError_4 : decode cX4_changeError 4 = .ok (.istore_n 2, 1) := by decide +kernel
theorem dX4_changeError_5 : decode cX4_changeError 5 = .ok (.aload_n 0, 1) := by decide +kernel
theorem dX4_changeError_6 : decode cX4_changeError 6 = .ok (.iload_n 1, 1) := by decide +kernel
theorem dX4_changeError_7 : decode cX4_changeError 7 = .ok (.putfield 28, 3) := by decide +kernel
theorem dX4_changeError_10 : decode cX4_changeError 10 = .ok (.iload_n 2, 1) := by decide +kernel
theorem dX4_changeError_11 : decode cX4_changeError 11 = .ok (.ireturn, 1) := by decide +kernel
theorem dX4_readingAt_0 : decode cX4_readingAt 0 = .ok (.lload_n 1, 1) := by decide +kernel
theorem dX4_readingAt_1 : decode cX4_readingAt 1 = .ok (.aload_n 0, 1) := by decide +kernel
theorem dX4_readingAt_2 : decode cX4_readingAt 2 = .ok (.getfield 28, 3) := by decide +kernel
theorem dX4_readingAt_5 : decode cX4_readingAt 5 = .ok (.i2l, 1) := by decide +kernel
theorem dX4_readingAt_6 : decode cX4_readingAt 6 = .ok (.ladd, 1) := by decide +kernel
theorem dX4_readingAt_7 : decode cX4_readingAt 7 = .ok (.lreturn, 1) := by decide +kernel
theorem dX4_keep_0 : decode cX4_keep 0 = .ok (.aload_n 0, 1) := by decide +kernel
theorem dX4_keep_1 : decode cX4_keep 1 = .ok (.getfield 12, 3) := by decide +kernel
theorem dX4_keep_4 : decode cX4_keep 4 = .ok (.lload_n 1, 1) := by decide +kernel
theorem dX4_keep_5 : decode cX4_keep 5 = .ok (.invokevirtual 47, 3) := by decide +kernel
theorem dX4_keep_8 : decode cX4_keep 8 = .ok (.aload_n 0, 1) := by decide +kernel
theorem dX4_keep_9 : decode cX4_keep 9 = .ok (.getfield 18, 3) := by decide +kernel
theorem dX4_keep_12 : decode cX4_keep 12 = .ok (.lload_n 3, 1) := by decide +kernel
theorem dX4_keep_13 : decode cX4_keep 13 = .ok (.invokevirtual 47, 3) := by decide +kernel
theorem dX4_keep_16 : decode cX4_keep 16 = .ok (.aload_n 0, 1) := by decide +kernel
theorem dX4_keep_17 : decode cX4_keep 17 = .ok (.getfield 21, 3) := by decide +kernel
theorem dX4_keep_20 : decode cX4_keep 20 = .ok (.lload 5, 2) := by decide +kernel
theorem dX4_keep_22 : decode cX4_keep 22 = .ok (.invokevirtual 47, 3) := by decide +kernel
theorem dX4_keep_25 : decode cX4_keep 25 = .ok (.aload_n 0, 1) := by decide +kernel
theorem dX4_keep_26 : decode cX4_keep 26 = .ok (.aload_n 0, 1) := by decide +kernel
theorem dX4_keep_27 : decode cX4_keep 27 = .ok (.getfield 41, 3) := by decide +kernel
theorem dX4_keep_30 : decode cX4_keep 30 = .ok (.iconst 1, 1) := by decide +kernel
theorem dX4_keep_31 : decode cX4_keep 31 = .ok (.iadd, 1) := by decide +kernel
theorem dX4_keep_32 : decode cX4_keep 32 = .ok (.bipush 8, 2) := by decide +kernel
theorem dX4_keep_34 : decode cX4_keep 34 = .ok (.invokestatic 51, 3) := by decide +kernel
theorem dX4_keep_37 : decode cX4_keep 37 = .ok (.putfield 41, 3) := by decide +kernel
theorem dX4_keep_40 : decode cX4_keep 40 = .ok (.aload_n 0, 1) := by decide +kernel
theorem dX4_keep_41 : decode cX4_keep 41 = .ok (.aload_n 0, 1) := by decide +kernel
theorem dX4_keep_42 : decode cX4_keep 42 = .ok (.invokevirtual 57, 3) := by decide +kernel
theorem dX4_keep_45 : decode cX4_keep 45 = .ok (.putfield 44, 3) := by decide +kernel
theorem dX4_keep_48 : decode cX4_keep 48 = .ok (.return_, 1) := by decide +kernel
theorem dX4_bestOffset_0 : decode cX4_bestOffset 0 = .ok (.aload_n 0, 1) := by decide +kernel
theorem dX4_bestOffset_1 : decode cX4_bestOffset 1 = .ok (.getfield 12, 3) := by decide +kernel
theorem dX4_bestOffset_4 : decode cX4_bestOffset 4 = .ok (.aload_n 0, 1) := by decide +kernel
theorem dX4_bestOffset_5 : decode cX4_bestOffset 5 = .ok (.getfield 44, 3) := by decide +kernel
theorem dX4_bestOffset_8 : decode cX4_bestOffset 8 = .ok (.invokevirtual 61, 3) := by decide +kernel
theorem dX4_bestOffset_11 : decode cX4_bestOffset 11 = .ok (.lreturn, 1) := by decide +kernel
theorem dX4_bestDelay_0 : decode cX4_bestDelay 0 = .ok (.aload_n 0, 1) := by decide +kernel
theorem dX4_bestDelay_1 : decode cX4_bestDelay 1 = .ok (.getfield 18, 3) := by decide +kernel
theorem dX4_bestDelay_4 : decode cX4_bestDelay 4 = .ok (.aload_n 0, 1) := by decide +kernel
theorem dX4_bestDelay_5 : decode cX4_bestDelay 5 = .ok (.getfield 44, 3) := by decide +kernel
theorem dX4_bestDelay_8 : decode cX4_bestDelay 8 = .ok (.invokevirtual 61, 3) := by decide +kernel
theorem dX4_bestDelay_11 : decode cX4_bestDelay 11 = .ok (.lreturn, 1) := by decide +kernel
theorem dX4_offsetJitter_0 : decode cX4_offsetJitter 0 = .ok (.aload_n 0, 1) := by decide +kernel
theorem dX4_offsetJitter_1 : decode cX4_offsetJitter 1 = .ok (.getfield 41, 3) := by decide +kernel
theorem dX4_offsetJitter_4 : decode cX4_offsetJitter 4 = .ok (.iconst 2, 1) := by decide +kernel
theorem dX4_offsetJitter_5 : decode cX4_offsetJitter 5 = .ok (.if_icmp .ge 5, 3) := by decide +kernel
theorem dX4_offsetJitter_8 : decode cX4_offsetJitter 8 = .ok (.lconst 0, 1) := by decide +kernel
theorem dX4_offsetJitter_9 : decode cX4_offsetJitter 9 = .ok (.lreturn, 1) := by decide +kernel
theorem dX4_offsetJitter_10 : decode cX4_offsetJitter 10 = .ok (.aload_n 0, 1) := by decide +kernel
theorem dX4_offsetJitter_11 : decode cX4_offsetJitter 11 = .ok (.getfield 12, 3) := by decide +kernel
theorem dX4_offsetJitter_14 : decode cX4_offsetJitter 14 = .ok (.aload_n 0, 1) := by decide +kernel
theorem dX4_offsetJitter_15 : decode cX4_offsetJitter 15 = .ok (.getfield 44, 3) := by decide +kernel
theorem dX4_offsetJitter_18 : decode cX4_offsetJitter 18 = .ok (.invokevirtual 61, 3) := by decide +kernel
theorem dX4_offsetJitter_21 : decode cX4_offsetJitter 21 = .ok (.lstore_n 1, 1) := by decide +kernel
theorem dX4_offsetJitter_22 : decode cX4_offsetJitter 22 = .ok (.lconst 0, 1) := by decide +kernel
theorem dX4_offsetJitter_23 : decode cX4_offsetJitter 23 = .ok (.lstore_n 3, 1) := by decide +kernel
theorem dX4_offsetJitter_24 : decode cX4_offsetJitter 24 = .ok (.iconst 0, 1) := by decide +kernel
theorem dX4_offsetJitter_25 : decode cX4_offsetJitter 25 = .ok (.istore 5, 2) := by decide +kernel
theorem dX4_offsetJitter_27 : decode cX4_offsetJitter 27 = .ok (.iload 5, 2) := by decide +kernel
theorem dX4_offsetJitter_29 : decode cX4_offsetJitter 29 = .ok (.aload_n 0, 1) := by decide +kernel
theorem dX4_offsetJitter_30 : decode cX4_offsetJitter 30 = .ok (.getfield 41, 3) := by decide +kernel
theorem dX4_offsetJitter_33 : decode cX4_offsetJitter 33 = .ok (.if_icmp .ge 26, 3) := by decide +kernel
theorem dX4_offsetJitter_36 : decode cX4_offsetJitter 36 = .ok (.lload_n 3, 1) := by decide +kernel
theorem dX4_offsetJitter_37 : decode cX4_offsetJitter 37 = .ok (.aload_n 0, 1) := by decide +kernel
theorem dX4_offsetJitter_38 : decode cX4_offsetJitter 38 = .ok (.getfield 12, 3) := by decide +kernel
theorem dX4_offsetJitter_41 : decode cX4_offsetJitter 41 = .ok (.iload 5, 2) := by decide +kernel
theorem dX4_offsetJitter_43 : decode cX4_offsetJitter 43 = .ok (.invokevirtual 61, 3) := by decide +kernel
theorem dX4_offsetJitter_46 : decode cX4_offsetJitter 46 = .ok (.lload_n 1, 1) := by decide +kernel
theorem dX4_offsetJitter_47 : decode cX4_offsetJitter 47 = .ok (.lsub, 1) := by decide +kernel
theorem dX4_offsetJitter_48 : decode cX4_offsetJitter 48 = .ok (.invokestatic 65, 3) := by decide +kernel
theorem dX4_offsetJitter_51 : decode cX4_offsetJitter 51 = .ok (.ladd, 1) := by decide +kernel
theorem dX4_offsetJitter_52 : decode cX4_offsetJitter 52 = .ok (.lstore_n 3, 1) := by decide +kernel
theorem dX4_offsetJitter_53 : decode cX4_offsetJitter 53 = .ok (.iinc 5 1, 3) := by decide +kernel
theorem dX4_offsetJitter_56 : decode cX4_offsetJitter 56 = .ok (.goto (-29), 3) := by decide +kernel
theorem dX4_offsetJitter_59 : decode cX4_offsetJitter 59 = .ok (.lload_n 3, 1) := by decide +kernel
theorem dX4_offsetJitter_60 : decode cX4_offsetJitter 60 = .ok (.aload_n 0, 1) := by decide +kernel
theorem dX4_offsetJitter_61 : decode cX4_offsetJitter 61 = .ok (.getfield 41, 3) := by decide +kernel
theorem dX4_offsetJitter_64 : decode cX4_offsetJitter 64 = .ok (.iconst 1, 1) := by decide +kernel
theorem dX4_offsetJitter_65 : decode cX4_offsetJitter 65 = .ok (.isub, 1) := by decide +kernel
theorem dX4_offsetJitter_66 : decode cX4_offsetJitter 66 = .ok (.i2l, 1) := by decide +kernel
theorem dX4_offsetJitter_67 : decode cX4_offsetJitter 67 = .ok (.ldiv, 1) := by decide +kernel
theorem dX4_offsetJitter_68 : decode cX4_offsetJitter 68 = .ok (.lreturn, 1) := by decide +kernel
theorem dX4_distanceAt_0 : decode cX4_distanceAt 0 = .ok (.lload_n 1, 1) := by decide +kernel
theorem dX4_distanceAt_1 : decode cX4_distanceAt 1 = .ok (.aload_n 0, 1) := by decide +kernel
theorem dX4_distanceAt_2 : decode cX4_distanceAt 2 = .ok (.getfield 21, 3) := by decide +kernel
theorem dX4_distanceAt_5 : decode cX4_distanceAt 5 = .ok (.aload_n 0, 1) := by decide +kernel
theorem dX4_distanceAt_6 : decode cX4_distanceAt 6 = .ok (.getfield 44, 3) := by decide +kernel
theorem dX4_distanceAt_9 : decode cX4_distanceAt 9 = .ok (.invokevirtual 61, 3) := by decide +kernel
theorem dX4_distanceAt_12 : decode cX4_distanceAt 12 = .ok (.lsub, 1) := by decide +kernel
theorem dX4_distanceAt_13 : decode cX4_distanceAt 13 = .ok (.lstore_n 3, 1) := by decide +kernel
theorem dX4_distanceAt_14 : decode cX4_distanceAt 14 = .ok (.aload_n 0, 1) := by decide +kernel
theorem dX4_distanceAt_15 : decode cX4_distanceAt 15 = .ok (.getfield 31, 3) := by decide +kernel
theorem dX4_distanceAt_18 : decode cX4_distanceAt 18 = .ok (.ldc2_w 69, 3) := by decide +kernel
theorem dX4_distanceAt_21 : decode cX4_distanceAt 21 = .ok (.ldiv, 1) := by decide +kernel
theorem dX4_distanceAt_22 : decode cX4_distanceAt 22 = .ok (.aload_n 0, 1) := by decide +kernel
theorem dX4_distanceAt_23 : decode cX4_distanceAt 23 = .ok (.invokevirtual 71, 3) := by decide +kernel
theorem dX4_distanceAt_26 : decode cX4_distanceAt 26 = .ok (.ldc2_w 69, 3) := by decide +kernel
theorem dX4_distanceAt_29 : decode cX4_distanceAt 29 = .ok (.ldiv, 1) := by decide +kernel
theorem dX4_distanceAt_30 : decode cX4_distanceAt 30 = .ok (.ladd, 1) := by decide +kernel
theorem dX4_distanceAt_31 : decode cX4_distanceAt 31 = .ok (.aload_n 0, 1) := by decide +kernel
theorem dX4_distanceAt_32 : decode cX4_distanceAt 32 = .ok (.getfield 35, 3) := by decide +kernel
theorem dX4_distanceAt_35 : decode cX4_distanceAt 35 = .ok (.ladd, 1) := by decide +kernel
theorem dX4_distanceAt_36 : decode cX4_distanceAt 36 = .ok (.aload_n 0, 1) := by decide +kernel
theorem dX4_distanceAt_37 : decode cX4_distanceAt 37 = .ok (.invokevirtual 75, 3) := by decide +kernel
theorem dX4_distanceAt_40 : decode cX4_distanceAt 40 = .ok (.ladd, 1) := by decide +kernel
theorem dX4_distanceAt_41 : decode cX4_distanceAt 41 = .ok (.ldc2_w 78, 3) := by decide +kernel
theorem dX4_distanceAt_44 : decode cX4_distanceAt 44 = .ok (.lload_n 3, 1) := by decide +kernel
theorem dX4_distanceAt_45 : decode cX4_distanceAt 45 = .ok (.lmul, 1) := by decide +kernel
theorem dX4_distanceAt_46 : decode cX4_distanceAt 46 = .ok (.ldc2_w 80, 3) := by decide +kernel
theorem dX4_distanceAt_49 : decode cX4_distanceAt 49 = .ok (.invokestatic 82, 3) := by decide +kernel
theorem dX4_distanceAt_52 : decode cX4_distanceAt 52 = .ok (.ladd, 1) := by decide +kernel
theorem dX4_distanceAt_53 : decode cX4_distanceAt 53 = .ok (.lreturn, 1) := by decide +kernel
theorem dX4_leastDelay_0 : decode cX4_leastDelay 0 = .ok (.iconst 0, 1) := by decide +kernel
theorem dX4_leastDelay_1 : decode cX4_leastDelay 1 = .ok (.istore_n 1, 1) := by decide +kernel
theorem dX4_leastDelay_2 : decode cX4_leastDelay 2 = .ok (.iconst 1, 1) := by decide +kernel
theorem dX4_leastDelay_3 : decode cX4_leastDelay 3 = .ok (.istore_n 2, 1) := by decide +kernel
theorem dX4_leastDelay_4 : decode cX4_leastDelay 4 = .ok (.iload_n 2, 1) := by decide +kernel
theorem dX4_leastDelay_5 : decode cX4_leastDelay 5 = .ok (.aload_n 0, 1) := by decide +kernel
theorem dX4_leastDelay_6 : decode cX4_leastDelay 6 = .ok (.getfield 41, 3) := by decide +kernel
theorem dX4_leastDelay_9 : decode cX4_leastDelay 9 = .ok (.if_icmp .ge 31, 3) := by decide +kernel
theorem dX4_leastDelay_12 : decode cX4_leastDelay 12 = .ok (.aload_n 0, 1) := by decide +kernel
theorem dX4_leastDelay_13 : decode cX4_leastDelay 13 = .ok (.getfield 18, 3) := by decide +kernel
theorem dX4_leastDelay_16 : decode cX4_leastDelay 16 = .ok (.iload_n 2, 1) := by decide +kernel
theorem dX4_leastDelay_17 : decode cX4_leastDelay 17 = .ok (.invokevirtual 61, 3) := by decide +kernel
theorem dX4_leastDelay_20 : decode cX4_leastDelay 20 = .ok (.aload_n 0, 1) := by decide +kernel
theorem dX4_leastDelay_21 : decode cX4_leastDelay 21 = .ok (.getfield 18, 3) := by decide +kernel
theorem dX4_leastDelay_24 : decode cX4_leastDelay 24 = .ok (.iload_n 1, 1) := by decide +kernel
theorem dX4_leastDelay_25 : decode cX4_leastDelay 25 = .ok (.invokevirtual 61, 3) := by decide +kernel
theorem dX4_leastDelay_28 : decode cX4_leastDelay 28 = .ok (.lcmp, 1) := by decide +kernel
theorem dX4_leastDelay_29 : decode cX4_leastDelay 29 = .ok (.ifCond .ge 5, 3) := by decide +kernel
theorem dX4_leastDelay_32 : decode cX4_leastDelay 32 = .ok (.iload_n 2, 1) := by decide +kernel
theorem dX4_leastDelay_33 : decode cX4_leastDelay 33 = .ok (.istore_n 1, 1) := by decide +kernel
theorem dX4_leastDelay_34 : decode cX4_leastDelay 34 = .ok (.iinc 2 1, 3) := by decide +kernel
theorem dX4_leastDelay_37 : decode cX4_leastDelay 37 = .ok (.goto (-33), 3) := by decide +kernel
theorem dX4_leastDelay_40 : decode cX4_leastDelay 40 = .ok (.iload_n 1, 1) := by decide +kernel
theorem dX4_leastDelay_41 : decode cX4_leastDelay 41 = .ok (.ireturn, 1) := by decide +kernel
theorem dX5_init_0 : decode cX5_init 0 = .ok (.aload_n 0, 1) := by decide +kernel
theorem dX5_init_1 : decode cX5_init 1 = .ok (.invokespecial 1, 3) := by decide +kernel
theorem dX5_init_4 : decode cX5_init 4 = .ok (.aload_n 0, 1) := by decide +kernel
theorem dX5_init_5 : decode cX5_init 5 = .ok (.new 7, 3) := by decide +kernel
theorem dX5_init_8 : decode cX5_init 8 = .ok (.dup, 1) := by decide +kernel
theorem dX5_init_9 : decode cX5_init 9 = .ok (.invokespecial 9, 3) := by decide +kernel
theorem dX5_init_12 : decode cX5_init 12 = .ok (.putfield 10, 3) := by decide +kernel
theorem dX5_init_15 : decode cX5_init 15 = .ok (.aload_n 0, 1) := by decide +kernel
theorem dX5_init_16 : decode cX5_init 16 = .ok (.new 16, 3) := by decide +kernel
theorem dX5_init_19 : decode cX5_init 19 = .ok (.dup, 1) := by decide +kernel
theorem dX5_init_20 : decode cX5_init 20 = .ok (.invokespecial 18, 3) := by decide +kernel
theorem dX5_init_23 : decode cX5_init 23 = .ok (.putfield 19, 3) := by decide +kernel
theorem dX5_init_26 : decode cX5_init 26 = .ok (.aload_n 0, 1) := by decide +kernel
theorem dX5_init_27 : decode cX5_init 27 = .ok (.bipush 8, 2) := by decide +kernel
theorem dX5_init_29 : decode cX5_init 29 = .ok (.anewarray 23, 3) := by decide +kernel
theorem dX5_init_32 : decode cX5_init 32 = .ok (.putfield 25, 3) := by decide +kernel
theorem dX5_init_35 : decode cX5_init 35 = .ok (.aload_n 0, 1) := by decide +kernel
theorem dX5_init_36 : decode cX5_init 36 = .ok (.new 29, 3) := by decide +kernel
theorem dX5_init_39 : decode cX5_init 39 = .ok (.dup, 1) := by decide +kernel
theorem dX5_init_40 : decode cX5_init 40 = .ok (.invokespecial 31, 3) := by decide +kernel
theorem dX5_init_43 : decode cX5_init 43 = .ok (.putfield 32, 3) := by decide +kernel
theorem dX5_init_46 : decode cX5_init 46 = .ok (.iconst 0, 1) := by decide +kernel
theorem dX5_init_47 : decode cX5_init 47 = .ok (.istore_n 1, 1) := by decide +kernel
theorem dX5_init_48 : decode cX5_init 48 = .ok (.iload_n 1, 1) := by decide +kernel
theorem dX5_init_49 : decode cX5_init 49 = .ok (.aload_n 0, 1) := by decide +kernel
theorem dX5_init_50 : decode cX5_init 50 = .ok (.getfield 25, 3) := by decide +kernel
theorem dX5_init_53 : decode cX5_init 53 = .ok (.arraylength, 1) := by decide +kernel
theorem dX5_init_54 : decode cX5_init 54 = .ok (.if_icmp .ge 22, 3) := by decide +kernel
theorem dX5_init_57 : decode cX5_init 57 = .ok (.aload_n 0, 1) := by decide +kernel
theorem dX5_init_58 : decode cX5_init 58 = .ok (.getfield 25, 3) := by decide +kernel
theorem dX5_init_61 : decode cX5_init 61 = .ok (.iload_n 1, 1) := by decide +kernel
theorem dX5_init_62 : decode cX5_init 62 = .ok (.new 23, 3) := by decide +kernel
theorem dX5_init_65 : decode cX5_init 65 = .ok (.dup, 1) := by decide +kernel
theorem dX5_init_66 : decode cX5_init 66 = .ok (.invokespecial 36, 3) := by decide +kernel
theorem dX5_init_69 : decode cX5_init 69 = .ok (.aastore, 1) := by decide +kernel
theorem dX5_init_70 : decode cX5_init 70 = .ok (.iinc 1 1, 3) := by decide +kernel
theorem dX5_init_73 : decode cX5_init 73 = .ok (.goto (-25), 3) := by decide +kernel
theorem dX5_init_76 : decode cX5_init 76 = .ok (.aload_n 0, 1) := by decide +kernel
theorem dX5_init_77 : decode cX5_init 77 = .ok (.iconst 0, 1) := by decide +kernel
theorem dX5_init_78 : decode cX5_init 78 = .ok (.invokevirtual 37, 3) := by decide +kernel
theorem dX5_init_81 : decode cX5_init 81 = .ok (.return_, 1) := by decide +kernel
theorem dX5_restart_0 : decode cX5_restart 0 = .ok (.iload_n 1, 1) := by decide +kernel
theorem dX5_restart_1 : decode cX5_restart 1 = .ok (.ldc 41, 2) := by decide +kernel
theorem dX5_restart_3 : decode cX5_restart 3 = .ok (.ldc 42, 2) := by decide +kernel
theorem dX5_restart_5 : decode cX5_restart 5 = .ok (.invokestatic 43, 3) := by decide +kernel
theorem dX5_restart_8 : decode cX5_restart 8 = .ok (.ifCond .ne 11, 3) := by decide +kernel
theorem dX5_restart_11 : decode cX5_restart 11 = .ok (.new 47, 3) := by decide +kernel
theorem dX5_restart_14 : decode cX5_restart 14 = .ok (.dup, 1) := by decide +kernel
theorem dX5_restart_15 : decode cX5_restart 15 = .ok (.invokespecial 49, 3) := by decide +kernel
theorem dX5_restart_18 : decode cX5_restart 18 = .ok (.athrow, 1) := by decide +kernel
theorem dX5_restart_19 : decode cX5_restart 19 = .ok (.aload_n 0, 1) := by decide +kernel
theorem dX5_restart_20 : decode cX5_restart 20 = .ok (.iload_n 1, 1) := by decide +kernel
theorem dX5_restart_21 : decode cX5_restart 21 = .ok (.invokevirtual 37, 3) := by decide +kernel
theorem dX5_restart_24 : decode cX5_restart 24 = .ok (.return_, 1) := by decide +kernel
theorem dX5_pass_0 : decode cX5_pass 0 = .ok (.iload_n 1, 1) := by decide +kernel
theorem dX5_pass_1 : decode cX5_pass 1 = .ok (.iconst 1, 1) := by decide +kernel
theorem dX5_pass_2 : decode cX5_pass 2 = .ok (.ldc 42, 2) := by decide +kernel
theorem dX5_pass_4 : decode cX5_pass 4 = .ok (.invokestatic 43, 3) := by decide +kernel
theorem dX5_pass_7 : decode cX5_pass 7 = .ok (.ifCond .ne 11, 3) := by decide +kernel
theorem dX5_pass_10 : decode cX5_pass 10 = .ok (.new 47, 3) := by decide +kernel
theorem dX5_pass_13 : decode cX5_pass 13 = .ok (.dup, 1) := by decide +kernel
theorem dX5_pass_14 : decode cX5_pass 14 = .ok (.invokespecial 49, 3) := by decide +kernel
theorem dX5_pass_17 : decode cX5_pass 17 = .ok (.athrow, 1) := by decide +kernel
theorem dX5_pass_18 : decode cX5_pass 18 = .ok (.aload_n 0, 1) := by decide +kernel
theorem dX5_pass_19 : decode cX5_pass 19 = .ok (.iload_n 1, 1) := by decide +kernel
theorem dX5_pass_20 : decode cX5_pass 20 = .ok (.i2l, 1) := by decide +kernel
theorem dX5_pass_21 : decode cX5_pass 21 = .ok (.invokevirtual 50, 3) := by decide +kernel
theorem dX5_pass_24 : decode cX5_pass 24 = .ok (.ifCond .eq 11, 3) := by decide +kernel
theorem dX5_pass_27 : decode cX5_pass 27 = .ok (.new 54, 3) := by decide +kernel
theorem dX5_pass_30 : decode cX5_pass 30 = .ok (.dup, 1) := by decide +kernel
theorem dX5_pass_31 : decode cX5_pass 31 = .ok (.invokespecial 56, 3) := by decide +kernel
theorem dX5_pass_34 : decode cX5_pass 34 = .ok (.athrow, 1) := by decide +kernel
theorem dX5_pass_35 : decode cX5_pass 35 = .ok (.aload_n 0, 1) := by decide +kernel
theorem dX5_pass_36 : decode cX5_pass 36 = .ok (.iload_n 1, 1) := by decide +kernel
theorem dX5_pass_37 : decode cX5_pass 37 = .ok (.invokevirtual 57, 3) := by decide +kernel
theorem dX5_pass_40 : decode cX5_pass 40 = .ok (.aload_n 0, 1) := by decide +kernel
theorem dX5_pass_41 : decode cX5_pass 41 = .ok (.getfield 10, 3) := by decide +kernel
theorem dX5_pass_44 : decode cX5_pass 44 = .ok (.invokevirtual 60, 3) := by decide +kernel
theorem dX5_pass_47 : decode cX5_pass 47 = .ok (.lreturn, 1) := by decide +kernel
theorem dX5_setDrift_0 : decode cX5_setDrift 0 = .ok (.iload_n 1, 1) := by decide +kernel
theorem dX5_setDrift_1 : decode cX5_setDrift 1 = .ok (.sipush (-300), 3) := by decide +kernel
theorem dX5_setDrift_4 : decode cX5_setDrift 4 = .ok (.sipush 300, 3) := by decide +kernel
theorem dX5_setDrift_7 : decode cX5_setDrift 7 = .ok (.invokestatic 43, 3) := by decide +kernel
theorem dX5_setDrift_10 : decode cX5_setDrift 10 = .ok (.ifCond .ne 11, 3) := by decide +kernel
theorem dX5_setDrift_13 : decode cX5_setDrift 13 = .ok (.new 47, 3) := by decide +kernel
theorem dX5_setDrift_16 : decode cX5_setDrift 16 = .ok (.dup, 1) := by decide +kernel
theorem dX5_setDrift_17 : decode cX5_setDrift 17 = .ok (.invokespecial 49, 3) := by decide +kernel
theorem dX5_setDrift_20 : decode cX5_setDrift 20 = .ok (.athrow, 1) := by decide +kernel
theorem dX5_setDrift_21 : decode cX5_setDrift 21 = .ok (.aload_n 0, 1) := by decide +kernel
theorem dX5_setDrift_22 : decode cX5_setDrift 22 = .ok (.getfield 10, 3) := by decide +kernel
theorem dX5_setDrift_25 : decode cX5_setDrift 25 = .ok (.iload_n 1, 1) := by decide +kernel
theorem dX5_setDrift_26 : decode cX5_setDrift 26 = .ok (.invokevirtual 64, 3) := by decide +kernel
theorem dX5_setDrift_29 : decode cX5_setDrift 29 = .ok (.ireturn, 1) := by decide +kernel
theorem dX5_trueTime_0 : decode cX5_trueTime 0 = .ok (.aload_n 0, 1) := by decide +kernel
theorem dX5_trueTime_1 : decode cX5_trueTime 1 = .ok (.getfield 68, 3) := by decide +kernel
theorem dX5_trueTime_4 : decode cX5_trueTime 4 = .ok (.lreturn, 1) := by decide +kernel
theorem dX5_clock_0 : decode cX5_clock 0 = .ok (.aload_n 0, 1) := by decide +kernel
theorem dX5_clock_1 : decode cX5_clock 1 = .ok (.getfield 10, 3) := by decide +kernel
theorem dX5_clock_4 : decode cX5_clock 4 = .ok (.invokevirtual 60, 3) := by decide +kernel
theorem dX5_clock_7 : decode cX5_clock 7 = .ok (.lreturn, 1) := by decide +kernel
theorem dX5_error_0 : decode cX5_error 0 = .ok (.aload_n 0, 1) := by decide +kernel
theorem dX5_error_1 : decode cX5_error 1 = .ok (.getfield 10, 3) := by decide +kernel
theorem dX5_error_4 : decode cX5_error 4 = .ok (.invokevirtual 60, 3) := by decide +kernel
theorem dX5_error_7 : decode cX5_error 7 = .ok (.aload_n 0, 1) := by decide +kernel
theorem dX5_error_8 : decode cX5_error 8 = .ok (.getfield 68, 3) := by decide +kernel
theorem dX5_error_11 : decode cX5_error 11 = .ok (.lsub, 1) := by decide +kernel
theorem dX5_error_12 : decode cX5_error 12 = .ok (.lreturn, 1) := by decide +kernel
theorem dX5_pendingSlew_0 : decode cX5_pendingSlew 0 = .ok (.aload_n 0, 1) := by decide +kernel
theorem dX5_pendingSlew_1 : decode cX5_pendingSlew 1 = .ok (.getfield 10, 3) := by decide +kernel
theorem dX5_pendingSlew_4 : decode cX5_pendingSlew 4 = .ok (.invokevirtual 72, 3) := by decide +kernel
theorem dX5_pendingSlew_7 : decode cX5_pendingSlew 7 = .ok (.lreturn, 1) := by decide +kernel
theorem dX5_correction_0 : decode cX5_correction 0 = .ok (.aload_n 0, 1) := by decide +kernel
theorem dX5_correction_1 : decode cX5_correction 1 = .ok (.getfield 10, 3) := by decide +kernel
theorem dX5_correction_4 : decode cX5_correction 4 = .ok (.invokevirtual 75, 3) := by decide +kernel
theorem dX5_correction_7 : decode cX5_correction 7 = .ok (.ireturn, 1) := by decide +kernel
theorem dX5_announceLeap_0 : decode cX5_announceLeap 0 = .ok (.iload_n 1, 1) := by decide +kernel
theorem dX5_announceLeap_1 : decode cX5_announceLeap 1 = .ok (.iconst 0, 1) := by decide +kernel
theorem dX5_announceLeap_2 : decode cX5_announceLeap 2 = .ok (.bipush 20, 2) := by decide +kernel
theorem dX5_announceLeap_4 : decode cX5_announceLeap 4 = .ok (.invokestatic 43, 3) := by decide +kernel
theorem dX5_announceLeap_7 : decode cX5_announceLeap 7 = .ok (.ifCond .ne 11, 3) := by decide +kernel
theorem dX5_announceLeap_10 : decode cX5_announceLeap 10 = .ok (.new 47, 3) := by decide +kernel
theorem dX5_announceLeap_13 : decode cX5_announceLeap 13 = .ok (.dup, 1) := by decide +kernel
theorem dX5_announceLeap_14 : decode cX5_announceLeap 14 = .ok (.invokespecial 49, 3) := by decide +kernel
theorem dX5_announceLeap_17 : decode cX5_announceLeap 17 = .ok (.athrow, 1) := by decide +kernel
theorem dX5_announceLeap_18 : decode cX5_announceLeap 18 = .ok (.iload_n 1, 1) := by decide +kernel
theorem dX5_announceLeap_19 : decode cX5_announceLeap 19 = .ok (.invokestatic 79, 3) := by decide +kernel
theorem dX5_announceLeap_22 : decode cX5_announceLeap 22 = .ok (.lstore_n 3, 1) := by decide +kernel
theorem dX5_announceLeap_23 : decode cX5_announceLeap 23 = .ok (.aload_n 0, 1) := by decide +kernel
theorem dX5_announceLeap_24 : decode cX5_announceLeap 24 = .ok (.getfield 19, 3) := by decide +kernel
theorem dX5_announceLeap_27 : decode cX5_announceLeap 27 = .ok (.iload_n 1, 1) := by decide +kernel
theorem dX5_announceLeap_28 : decode cX5_announceLeap 28 = .ok (.invokevirtual 83, 3) := by decide +kernel
theorem dX5_announceLeap_31 : decode cX5_announceLeap 31 = .ok (.ifCond .ne 15, 3) := by decide +kernel
theorem dX5_announceLeap_34 : decode cX5_announceLeap 34 = .ok (.aload_n 0, 1) := by decide +kernel
theorem dX5_announceLeap_35 : decode cX5_announceLeap 35 = .ok (.getfield 10, 3) := by decide +kernel
theorem dX5_announceLeap_38 : decode cX5_announceLeap 38 = .ok (.invokevirtual 60, 3) := by decide +kernel
theorem dX5_announceLeap_41 : decode cX5_announceLeap 41 = .ok (.lload_n 3, 1) := by decide +kernel
theorem dX5_announceLeap_42 : decode cX5_announceLeap 42 = .ok (.lcmp, 1) := by decide +kernel
theorem dX5_announceLeap_43 : decode cX5_announceLeap 43 = .ok (.ifCond .lt 11, 3) := by decide +kernel
theorem dX5_announceLeap_46 : decode cX5_announceLeap 46 = .ok (.new 54, 3) := by decide +kernel
theorem dX5_announceLeap_49 : decode cX5_announceLeap 49 = .ok (.dup, 1) := by decide +kernel
theorem dX5_announceLeap_50 : decode cX5_announceLeap 50 = .ok (.invokespecial 56, 3) := by decide +kernel
theorem dX5_announceLeap_53 : decode cX5_announceLeap 53 = .ok (.athrow, 1) := by decide +kernel
theorem dX5_announceLeap_54 : decode cX5_announceLeap 54 = .ok (.aload_n 0, 1) := by decide +kernel
theorem dX5_announceLeap_55 : decode cX5_announceLeap 55 = .ok (.getfield 19, 3) := by decide +kernel
theorem dX5_announceLeap_58 : decode cX5_announceLeap 58 = .ok (.iload_n 1, 1) := by decide +kernel
theorem dX5_announceLeap_59 : decode cX5_announceLeap 59 = .ok (.iload_n 2, 1) := by decide +kernel
theorem dX5_announceLeap_60 : decode cX5_announceLeap 60 = .ok (.invokevirtual 87, 3) := by decide +kernel
theorem dX5_announceLeap_63 : decode cX5_announceLeap 63 = .ok (.lload_n 3, 1) := by decide +kernel
theorem dX5_announceLeap_64 : decode cX5_announceLeap 64 = .ok (.lreturn, 1) := by decide +kernel
theorem dX5_civil_0 : decode cX5_civil 0 = .ok (.aload_n 0, 1) := by decide +kernel
theorem dX5_civil_1 : decode cX5_civil 1 = .ok (.getfield 19, 3) := by decide +kernel
theorem dX5_civil_4 : decode cX5_civil 4 = .ok (.aload_n 0, 1) := by decide +kernel
theorem dX5_civil_5 : decode cX5_civil 5 = .ok (.getfield 10, 3) := by decide +kernel
theorem dX5_civil_8 : decode cX5_civil 8 = .ok (.invokevirtual 60, 3) := by decide +kernel
theorem dX5_civil_11 : decode cX5_civil 11 = .ok (.invokevirtual 91, 3) := by decide +kernel
theorem dX5_civil_14 : decode cX5_civil 14 = .ok (.lreturn, 1) := by decide +kernel
theorem dX5_addServer_0 : decode cX5_addServer 0 = .ok (.iload_n 1, 1) := by decide +kernel
theorem dX5_addServer_1 : decode cX5_addServer 1 = .ok (.iconst 1, 1) := by decide +kernel
theorem dX5_addServer_2 : decode cX5_addServer 2 = .ok (.bipush 14, 2) := by decide +kernel
theorem dX5_addServer_4 : decode cX5_addServer 4 = .ok (.invokestatic 43, 3) := by decide +kernel
theorem dX5_addServer_7 : decode cX5_addServer 7 = .ok (.ifCond .eq 31, 3) := by decide +kernel
theorem dX5_addServer_10 : decode cX5_addServer 10 = .ok (.iload_n 2, 1) := by decide +kernel
theorem dX5_addServer_11 : decode cX5_addServer 11 = .ok (.invokestatic 95, 3) := by decide +kernel
theorem dX5_addServer_14 : decode cX5_addServer 14 = .ok (.ifCond .eq 24, 3) := by decide +kernel
theorem dX5_addServer_17 : decode cX5_addServer 17 = .ok (.iload_n 3, 1) := by decide +kernel
theorem dX5_addServer_18 : decode cX5_addServer 18 = .ok (.iconst 0, 1) := by decide +kernel
theorem dX5_addServer_19 : decode cX5_addServer 19 = .ok (.ldc 98, 2) := by decide +kernel
theorem dX5_addServer_21 : decode cX5_addServer 21 = .ok (.invokestatic 43, 3) := by decide +kernel
theorem dX5_addServer_24 : decode cX5_addServer 24 = .ok (.ifCond .eq 14, 3) := by decide +kernel
theorem dX5_addServer_27 : decode cX5_addServer 27 = .ok (.iload 4, 2) := by decide +kernel
theorem dX5_addServer_29 : decode cX5_addServer 29 = .ok (.iconst 0, 1) := by decide +kernel
theorem dX5_addServer_30 : decode cX5_addServer 30 = .ok (.ldc 98, 2) := by decide +kernel
theorem dX5_addServer_32 : decode cX5_addServer 32 = .ok (.invokestatic 43, 3) := by decide +kernel
theorem dX5_addServer_35 : decode cX5_addServer 35 = .ok (.ifCond .ne 11, 3) := by decide +kernel
theorem dX5_addServer_38 : decode cX5_addServer 38 = .ok (.new 47, 3) := by decide +kernel
theorem dX5_addServer_41 : decode cX5_addServer 41 = .ok (.dup, 1) := by decide +kernel
theorem dX5_addServer_42 : decode cX5_addServer 42 = .ok (.invokespecial 49, 3) := by decide +kernel
theorem dX5_addServer_45 : decode cX5_addServer 45 = .ok (.athrow, 1) := by decide +kernel
theorem dX5_addServer_46 : decode cX5_addServer 46 = .ok (.aload_n 0, 1) := by decide +kernel
theorem dX5_addServer_47 : decode cX5_addServer 47 = .ok (.getfield 99, 3) := by decide +kernel
theorem dX5_addServer_50 : decode cX5_addServer 50 = .ok (.bipush 8, 2) := by decide +kernel
theorem dX5_addServer_52 : decode cX5_addServer 52 = .ok (.if_icmp .ge 14, 3) := by decide +kernel
theorem dX5_addServer_55 : decode cX5_addServer 55 = .ok (.aload_n 0, 1) := by decide +kernel
theorem dX5_addServer_56 : decode cX5_addServer 56 = .ok (.aload_n 0, 1) := by decide +kernel
theorem dX5_addServer_57 : decode cX5_addServer 57 = .ok (.getfield 99, 3) := by decide +kernel
theorem dX5_addServer_60 : decode cX5_addServer 60 = .ok (.invokevirtual 103, 3) := by decide +kernel
theorem dX5_addServer_63 : decode cX5_addServer 63 = .ok (.goto 4, 3) := by decide +kernel
theorem dX5_addServer_66 : decode cX5_addServer 66 = .ok (.aconst_null, 1) := by decide +kernel
theorem dX5_addServer_67 : decode cX5_addServer 67 = .ok (.astore 5, 2) := by decide +kernel
theorem dX5_addServer_69 : decode cX5_addServer 69 = .ok (.aload 5, 2) := by decide +kernel
theorem dX5_addServer_71 : decode cX5_addServer 71 = .ok (.ifnonnull 11, 3) := by decide +kernel
theorem dX5_addServer_74 : decode cX5_addServer 74 = .ok (.new 54, 3) := by decide +kernel
theorem dX5_addServer_77 : decode cX5_addServer 77 = .ok (.dup, 1) := by decide +kernel
theorem dX5_addServer_78 : decode cX5_addServer 78 = .ok (.invokespecial 56, 3) := by decide +kernel
theorem dX5_addServer_81 : decode cX5_addServer 81 = .ok (.athrow, 1) := by decide +kernel
theorem dX5_addServer_82 : decode cX5_addServer 82 = .ok (.aload 5, 2) := by decide +kernel
theorem dX5_addServer_84 : decode cX5_addServer 84 = .ok (.iload_n 1, 1) := by decide +kernel
theorem dX5_addServer_85 : decode cX5_addServer 85 = .ok (.iload_n 2, 1) := by decide +kernel
theorem dX5_addServer_86 : decode cX5_addServer 86 = .ok (.iload_n 3, 1) := by decide +kernel
theorem dX5_addServer_87 : decode cX5_addServer 87 = .ok (.iload 4, 2) := by decide +kernel
theorem dX5_addServer_89 : decode cX5_addServer 89 = .ok (.invokevirtual 107, 3) := by decide +kernel
theorem dX5_addServer_92 : decode cX5_addServer 92 = .ok (.aload_n 0, 1) := by decide +kernel
theorem dX5_addServer_93 : decode cX5_addServer 93 = .ok (.dup, 1) := by decide +kernel
theorem dX5_addServer_94 : decode cX5_addServer 94 = .ok (.getfield 99, 3) := by decide +kernel
theorem dX5_addServer_97 : decode cX5_addServer 97 = .ok (.iconst 1, 1) := by decide +kernel
theorem dX5_addServer_98 : decode cX5_addServer 98 = .ok (.iadd, 1) := by decide +kernel
theorem dX5_addServer_99 : decode cX5_addServer 99 = .ok (.putfield 99, 3) := by decide +kernel
theorem dX5_addServer_102 : decode cX5_addServer 102 = .ok (.aload_n 0, 1) := by decide +kernel
theorem dX5_addServer_103 : decode cX5_addServer 103 = .ok (.getfield 99, 3) := by decide +kernel
theorem dX5_addServer_106 : decode cX5_addServer 106 = .ok (.iconst 1, 1) := by decide +kernel
theorem dX5_addServer_107 : decode cX5_addServer 107 = .ok (.isub, 1) := by decide +kernel
theorem dX5_addServer_108 : decode cX5_addServer 108 = .ok (.ireturn, 1) := by decide +kernel
theorem dX5_setError_0 : decode cX5_setError 0 = .ok (.aload_n 0, 1) := by decide +kernel
theorem dX5_setError_1 : decode cX5_setError 1 = .ok (.iload_n 1, 1) := by decide +kernel
theorem dX5_setError_2 : decode cX5_setError 2 = .ok (.invokevirtual 111, 3) := by decide +kernel
theorem dX5_setError_5 : decode cX5_setError 5 = .ok (.astore_n 3, 1) := by decide +kernel
theorem dX5_setError_6 : decode cX5_setError 6 = .ok (.iload_n 2, 1) := by decide +kernel
theorem dX5_setError_7 : decode cX5_setError 7 = .ok (.invokestatic 95, 3) := by decide +kernel
theorem dX5_setError_10 : decode cX5_setError 10 = .ok (.ifCond .ne 11, 3) := by decide +kernel
theorem dX5_setError_13 : decode cX5_setError 13 = .ok (.new 47, 3) := by decide +kernel
theorem dX5_setError_16 : decode cX5_setError 16 = .ok (.dup, 1) := by decide +kernel
theorem dX5_setError_17 : decode cX5_setError 17 = .ok (.invokespecial 49, 3) := by decide +kernel
theorem dX5_setError_20 : decode cX5_setError 20 = .ok (.athrow, 1) := by decide +kernel
theorem dX5_setError_21 : decode cX5_setError 21 = .ok (.aload_n 3, 1) := by decide +kernel
theorem dX5_setError_22 : decode cX5_setError 22 = .ok (.iload_n 2, 1) := by decide +kernel
theorem dX5_setError_23 : decode cX5_setError 23 = .ok (.invokevirtual 114, 3) := by decide +kernel
theorem dX5_setError_26 : decode cX5_setError 26 = .ok (.ireturn, 1) := by decide +kernel
theorem dX5_exchange_0 : decode cX5_exchange 0 = .ok (.aload_n 0, 1) := by decide +kernel
theorem dX5_exchange_1 : decode cX5_exchange 1 = .ok (.iload_n 1, 1) := by decide +kernel
theorem dX5_exchange_2 : decode cX5_exchange 2 = .ok (.invokevirtual 111, 3) := by decide +kernel
theorem dX5_exchange_5 : decode cX5_exchange 5 = .ok (.astore 5, 2) := by decide +kernel
theorem dX5_exchange_7 : decode cX5_exchange 7 = .ok (.iload_n 2, 1) := by decide +kernel
theorem dX5_exchange_8 : decode cX5_exchange 8 = .ok (.iconst 0, 1) := by decide +kernel
theorem dX5_exchange_9 : decode cX5_exchange 9 = .ok (.ldc 117, 2) := by decide +kernel
theorem dX5_exchange_11 : decode cX5_exchange 11 = .ok (.invokestatic 43, 3) := by decide +kernel
theorem dX5_exchange_14 : decode cX5_exchange 14 = .ok (.ifCond .eq 24, 3) := by decide +kernel
theorem dX5_exchange_17 : decode cX5_exchange 17 = .ok (.iload_n 3, 1) := by decide +kernel
theorem dX5_exchange_18 : decode cX5_exchange 18 = .ok (.iconst 0, 1) := by decide +kernel
theorem dX5_exchange_19 : decode cX5_exchange 19 = .ok (.ldc 118, 2) := by decide +kernel
theorem dX5_exchange_21 : decode cX5_exchange 21 = .ok (.invokestatic 43, 3) := by decide +kernel
theorem dX5_exchange_24 : decode cX5_exchange 24 = .ok (.ifCond .eq 14, 3) := by decide +kernel
theorem dX5_exchange_27 : decode cX5_exchange 27 = .ok (.iload 4, 2) := by decide +kernel
theorem dX5_exchange_29 : decode cX5_exchange 29 = .ok (.iconst 0, 1) := by decide +kernel
theorem dX5_exchange_30 : decode cX5_exchange 30 = .ok (.ldc 117, 2) := by decide +kernel
theorem dX5_exchange_32 : decode cX5_exchange 32 = .ok (.invokestatic 43, 3) := by decide +kernel
theorem dX5_exchange_35 : decode cX5_exchange 35 = .ok (.ifCond .ne 11, 3) := by decide +kernel
theorem dX5_exchange_38 : decode cX5_exchange 38 = .ok (.new 47, 3) := by decide +kernel
theorem dX5_exchange_41 : decode cX5_exchange 41 = .ok (.dup, 1) := by decide +kernel
theorem dX5_exchange_42 : decode cX5_exchange 42 = .ok (.invokespecial 49, 3) := by decide +kernel
theorem dX5_exchange_45 : decode cX5_exchange 45 = .ok (.athrow, 1) := by decide +kernel
theorem dX5_exchange_46 : decode cX5_exchange 46 = .ok (.aload_n 0, 1) := by decide +kernel
theorem dX5_exchange_47 : decode cX5_exchange 47 = .ok (.iload_n 2, 1) := by decide +kernel
theorem dX5_exchange_48 : decode cX5_exchange 48 = .ok (.i2l, 1) := by decide +kernel
theorem dX5_exchange_49 : decode cX5_exchange 49 = .ok (.iload_n 3, 1) := by decide +kernel
theorem dX5_exchange_50 : decode cX5_exchange 50 = .ok (.i2l, 1) := by decide +kernel
theorem dX5_exchange_51 : decode cX5_exchange 51 = .ok (.ladd, 1) := by decide +kernel
theorem dX5_exchange_52 : decode cX5_exchange 52 = .ok (.iload 4, 2) := by decide +kernel
theorem dX5_exchange_54 : decode cX5_exchange 54 = .ok (.i2l, 1) := by decide +kernel
theorem dX5_exchange_55 : decode cX5_exchange 55 = .ok (.ladd, 1) := by decide +kernel
theorem dX5_exchange_56 : decode cX5_exchange 56 = .ok (.invokevirtual 50, 3) := by decide +kernel
theorem dX5_exchange_59 : decode cX5_exchange 59 = .ok (.ifCond .eq 11, 3) := by decide +kernel
theorem dX5_exchange_62 : decode cX5_exchange 62 = .ok (.new 54, 3) := by decide +kernel
theorem dX5_exchange_65 : decode cX5_exchange 65 = .ok (.dup, 1) := by decide +kernel
theorem dX5_exchange_66 : decode cX5_exchange 66 = .ok (.invokespecial 56, 3) := by decide +kernel
theorem dX5_exchange_69 : decode cX5_exchange 69 = .ok (.athrow, 1) := by decide +kernel
theorem dX5_exchange_70 : decode cX5_exchange 70 = .ok (.aload_n 0, 1) := by decide +kernel
theorem dX5_exchange_71 : decode cX5_exchange 71 = .ok (.aload 5, 2) := by decide +kernel
theorem dX5_exchange_73 : decode cX5_exchange 73 = .ok (.iload_n 2, 1) := by decide +kernel
theorem dX5_exchange_74 : decode cX5_exchange 74 = .ok (.iload_n 3, 1) := by decide +kernel
theorem dX5_exchange_75 : decode cX5_exchange 75 = .ok (.iload 4, 2) := by decide +kernel
theorem dX5_exchange_77 : decode cX5_exchange 77 = .ok (.invokevirtual 119, 3) := by decide +kernel
theorem dX5_exchange_80 : decode cX5_exchange 80 = .ok (.lreturn, 1) := by decide +kernel
theorem dX5_servers_0 : decode cX5_servers 0 = .ok (.aload_n 0, 1) := by decide +kernel
theorem dX5_servers_1 : decode cX5_servers 1 = .ok (.getfield 99, 3) := by decide +kernel
theorem dX5_servers_4 : decode cX5_servers 4 = .ok (.ireturn, 1) := by decide +kernel
theorem dX5_samples_0 : decode cX5_samples 0 = .ok (.aload_n 0, 1) := by decide +kernel
theorem dX5_samples_1 : decode cX5_samples 1 = .ok (.iload_n 1, 1) := by decide +kernel
theorem dX5_samples_2 : decode cX5_samples 2 = .ok (.invokevirtual 111, 3) := by decide +kernel
theorem dX5_samples_5 : decode cX5_samples 5 = .ok (.invokevirtual 123, 3) := by decide +kernel
theorem dX5_samples_8 : decode cX5_samples 8 = .ok (.ireturn, 1) := by decide +kernel
theorem dX5_offset_0 : decode cX5_offset 0 = .ok (.aload_n 0, 1) := by decide +kernel
theorem dX5_offset_1 : decode cX5_offset 1 = .ok (.iload_n 1, 1) := by decide +kernel
theorem dX5_offset_2 : decode cX5_offset 2 = .ok (.invokevirtual 126, 3) := by decide +kernel
theorem dX5_offset_5 : decode cX5_offset 5 = .ok (.invokevirtual 129, 3) := by decide +kernel
theorem dX5_offset_8 : decode cX5_offset 8 = .ok (.lreturn, 1) := by decide +kernel
theorem dX5_delay_0 : decode cX5_delay 0 = .ok (.aload_n 0, 1) := by decide +kernel
theorem dX5_delay_1 : decode cX5_delay 1 = .ok (.iload_n 1, 1) := by decide +kernel
theorem dX5_delay_2 : decode cX5_delay 2 = .ok (.invokevirtual 126, 3) := by decide +kernel
theorem dX5_delay_5 : decode cX5_delay 5 = .ok (.invokevirtual 132, 3) := by decide +kernel
theorem dX5_delay_8 : decode cX5_delay 8 = .ok (.lreturn, 1) := by decide +kernel
theorem dX5_jitter_0 : decode cX5_jitter 0 = .ok (.aload_n 0, 1) := by decide +kernel
theorem dX5_jitter_1 : decode cX5_jitter 1 = .ok (.iload_n 1, 1) := by decide +kernel
theorem dX5_jitter_2 : decode cX5_jitter 2 = .ok (.invokevirtual 126, 3) := by decide +kernel
theorem dX5_jitter_5 : decode cX5_jitter 5 = .ok (.invokevirtual 135, 3) := by decide +kernel
theorem dX5_jitter_8 : decode cX5_jitter 8 = .ok (.lreturn, 1) := by decide +kernel
theorem dX5_distance_0 : decode cX5_distance 0 = .ok (.aload_n 0, 1) := by decide +kernel
theorem dX5_distance_1 : decode cX5_distance 1 = .ok (.iload_n 1, 1) := by decide +kernel
theorem dX5_distance_2 : decode cX5_distance 2 = .ok (.invokevirtual 126, 3) := by decide +kernel
theorem dX5_distance_5 : decode cX5_distance 5 = .ok (.aload_n 0, 1) := by decide +kernel
theorem dX5_distance_6 : decode cX5_distance 6 = .ok (.getfield 10, 3) := by decide +kernel
theorem dX5_distance_9 : decode cX5_distance 9 = .ok (.invokevirtual 60, 3) := by decide +kernel
theorem dX5_distance_12 : decode cX5_distance 12 = .ok (.invokevirtual 138, 3) := by decide +kernel
theorem dX5_distance_15 : decode cX5_distance 15 = .ok (.lreturn, 1) := by decide +kernel
theorem dX5_agreement_0 : decode cX5_agreement 0 = .ok (.aload_n 0, 1) := by decide +kernel
theorem dX5_agreement_1 : decode cX5_agreement 1 = .ok (.invokevirtual 141, 3) := by decide +kernel
theorem dX5_agreement_4 : decode cX5_agreement 4 = .ok (.aload_n 0, 1) := by decide +kernel
theorem dX5_agreement_5 : decode cX5_agreement 5 = .ok (.getfield 32, 3) := by decide +kernel
theorem dX5_agreement_8 : decode cX5_agreement 8 = .ok (.invokevirtual 144, 3) := by decide +kernel
theorem dX5_agreement_11 : decode cX5_agreement 11 = .ok (.ireturn, 1) := by decide +kernel
theorem dX5_hasMajority_0 : decode cX5_hasMajority 0 = .ok (.aload_n 0, 1) := by decide +kernel
theorem dX5_hasMajority_1 : decode cX5_hasMajority 1 = .ok (.invokevirtual 141, 3) := by decide +kernel
theorem dX5_hasMajority_4 : decode cX5_hasMajority 4 = .ok (.aload_n 0, 1) := by decide +kernel
theorem dX5_hasMajority_5 : decode cX5_hasMajority 5 = .ok (.getfield 32, 3) := by decide +kernel
theorem dX5_hasMajority_8 : decode cX5_hasMajority 8 = .ok (.invokevirtual 147, 3) := by decide +kernel
theorem dX5_hasMajority_11 : decode cX5_hasMajority 11 = .ok (.ireturn, 1) := by decide +kernel
theorem dX5_agreeing_0 : decode cX5_agreeing 0 = .ok (.aload_n 0, 1) := by decide +kernel
theorem dX5_agreeing_1 : decode cX5_agreeing 1 = .ok (.invokevirtual 141, 3) := by decide +kernel
theorem dX5_agreeing_4 : decode cX5_agreeing 4 = .ok (.aload_n 0, 1) := by decide +kernel
theorem dX5_agreeing_5 : decode cX5_agreeing 5 = .ok (.getfield 32, 3) := by decide +kernel
theorem dX5_agreeing_8 : decode cX5_agreeing 8 = .ok (.invokevirtual 151, 3) := by decide +kernel
theorem dX5_agreeing_11 : decode cX5_agreeing 11 = .ok (.ireturn, 1) := by decide +kernel
theorem dX5_low_0 : decode cX5_low 0 = .ok (.aload_n 0, 1) := by decide +kernel
theorem dX5_low_1 : decode cX5_low 1 = .ok (.invokevirtual 154, 3) := by decide +kernel
theorem dX5_low_4 : decode cX5_low 4 = .ok (.aload_n 0, 1) := by decide +kernel
theorem dX5_low_5 : decode cX5_low 5 = .ok (.getfield 32, 3) := by decide +kernel
theorem dX5_low_8 : decode cX5_low 8 = .ok (.invokevirtual 157, 3) := by decide +kernel
theorem dX5_low_11 : decode cX5_low 11 = .ok (.lreturn, 1) := by decide +kernel
theorem dX5_high_0 : decode cX5_high 0 = .ok (.aload_n 0, 1) := by decide +kernel
theorem dX5_high_1 : decode cX5_high 1 = .ok (.invokevirtual 154, 3) := by decide +kernel
theorem dX5_high_4 : decode cX5_high 4 = .ok (.aload_n 0, 1) := by decide +kernel
theorem dX5_high_5 : decode cX5_high 5 = .ok (.getfield 32, 3) := by decide +kernel
theorem dX5_high_8 : decode cX5_high 8 = .ok (.invokevirtual 160, 3) := by decide +kernel
theorem dX5_high_11 : decode cX5_high 11 = .ok (.lreturn, 1) := by decide +kernel
theorem dX5_survivors_0 : decode cX5_survivors 0 = .ok (.aload_n 0, 1) := by decide +kernel
theorem dX5_survivors_1 : decode cX5_survivors 1 = .ok (.invokevirtual 141, 3) := by decide +kernel
theorem dX5_survivors_4 : decode cX5_survivors 4 = .ok (.aload_n 0, 1) := by decide +kernel
theorem dX5_survivors_5 : decode cX5_survivors 5 = .ok (.getfield 32, 3) := by decide +kernel
theorem dX5_survivors_8 : decode cX5_survivors 8 = .ok (.invokevirtual 163, 3) := by decide +kernel
theorem dX5_survivors_11 : decode cX5_survivors 11 = .ok (.ireturn, 1) := by decide +kernel
theorem dX5_combinedOffset_0 : decode cX5_combinedOffset 0 = .ok (.aload_n 0, 1) := by decide +kernel
theorem dX5_combinedOffset_1 : decode cX5_combinedOffset 1 = .ok (.invokevirtual 154, 3) := by decide +kernel
theorem dX5_combinedOffset_4 : decode cX5_combinedOffset 4 = .ok (.aload_n 0, 1) := by decide +kernel
theorem dX5_combinedOffset_5 : decode cX5_combinedOffset 5 = .ok (.getfield 32, 3) := by decide +kernel
theorem dX5_combinedOffset_8 : decode cX5_combinedOffset 8 = .ok (.invokevirtual 166, 3) := by decide +kernel
theorem dX5_combinedOffset_11 : decode cX5_combinedOffset 11 = .ok (.lreturn, 1) := by decide +kernel
theorem dX5_peer_0 : decode cX5_peer 0 = .ok (.aload_n 0, 1) := by decide +kernel
theorem dX5_peer_1 : decode cX5_peer 1 = .ok (.invokevirtual 141, 3) := by decide +kernel
theorem dX5_peer_4 : decode cX5_peer 4 = .ok (.aload_n 0, 1) := by decide +kernel
theorem dX5_peer_5 : decode cX5_peer 5 = .ok (.getfield 32, 3) := by decide +kernel
theorem dX5_peer_8 : decode cX5_peer 8 = .ok (.invokevirtual 169, 3) := by decide +kernel
theorem dX5_peer_11 : decode cX5_peer 11 = .ok (.ireturn, 1) := by decide +kernel
theorem dX5_synchronize_0 : decode cX5_synchronize 0 = .ok (.aload_n 0, 1) := by decide +kernel
theorem dX5_synchronize_1 : decode cX5_synchronize 1 = .ok (.invokevirtual 141, 3) := by decide +kernel
theorem dX5_synchronize_4 : decode cX5_synchronize 4 = .ok (.aload_n 0, 1) := by decide +kernel
theorem dX5_synchronize_5 : decode cX5_synchronize 5 = .ok (.getfield 32, 3) := by decide +kernel
theorem dX5_synchronize_8 : decode cX5_synchronize 8 = .ok (.invokevirtual 147, 3) := by decide +kernel
theorem dX5_synchronize_11 : decode cX5_synchronize 11 = .ok (.ifCond .ne 11, 3) := by decide +kernel
theorem dX5_synchronize_14 : decode cX5_synchronize 14 = .ok (.new 54, 3) := by decide +kernel
theorem dX5_synchronize_17 : decode cX5_synchronize 17 = .ok (.dup, 1) := by decide +kernel
theorem dX5_synchronize_18 : decode cX5_synchronize 18 = .ok (.invokespecial 56, 3) := by decide +kernel
theorem dX5_synchronize_21 : decode cX5_synchronize 21 = .ok (.athrow, 1) := by decide +kernel
theorem dX5_synchronize_22 : decode cX5_synchronize 22 = .ok (.aload_n 0, 1) := by decide +kernel
theorem dX5_synchronize_23 : decode cX5_synchronize 23 = .ok (.getfield 32, 3) := by decide +kernel
theorem dX5_synchronize_26 : decode cX5_synchronize 26 = .ok (.invokevirtual 166, 3) := by decide +kernel
theorem dX5_synchronize_29 : decode cX5_synchronize 29 = .ok (.lstore_n 1, 1) := by decide +kernel
theorem dX5_synchronize_30 : decode cX5_synchronize 30 = .ok (.aload_n 0, 1) := by decide +kernel
theorem dX5_synchronize_31 : decode cX5_synchronize 31 = .ok (.lload_n 1, 1) := by decide +kernel
theorem dX5_synchronize_32 : decode cX5_synchronize 32 = .ok (.invokevirtual 172, 3) := by decide +kernel
theorem dX5_synchronize_35 : decode cX5_synchronize 35 = .ok (.aload_n 0, 1) := by decide +kernel
theorem dX5_synchronize_36 : decode cX5_synchronize 36 = .ok (.lload_n 1, 1) := by decide +kernel
theorem dX5_synchronize_37 : decode cX5_synchronize 37 = .ok (.invokevirtual 176, 3) := by decide +kernel
theorem dX5_synchronize_40 : decode cX5_synchronize 40 = .ok (.istore_n 3, 1) := by decide +kernel
theorem dX5_synchronize_41 : decode cX5_synchronize 41 = .ok (.aload_n 0, 1) := by decide +kernel
theorem dX5_synchronize_42 : decode cX5_synchronize 42 = .ok (.invokevirtual 180, 3) := by decide +kernel
theorem dX5_synchronize_45 : decode cX5_synchronize 45 = .ok (.aload_n 0, 1) := by decide +kernel
theorem dX5_synchronize_46 : decode cX5_synchronize 46 = .ok (.invokevirtual 183, 3) := by decide +kernel
theorem dX5_synchronize_49 : decode cX5_synchronize 49 = .ok (.aload_n 0, 1) := by decide +kernel
theorem dX5_synchronize_50 : decode cX5_synchronize 50 = .ok (.aload_n 0, 1) := by decide +kernel
theorem dX5_synchronize_51 : decode cX5_synchronize 51 = .ok (.getfield 10, 3) := by decide +kernel
theorem dX5_synchronize_54 : decode cX5_synchronize 54 = .ok (.invokevirtual 60, 3) := by decide +kernel
theorem dX5_synchronize_57 : decode cX5_synchronize 57 = .ok (.putfield 186, 3) := by decide +kernel
theorem dX5_synchronize_60 : decode cX5_synchronize 60 = .ok (.aload_n 0, 1) := by decide +kernel
theorem dX5_synchronize_61 : decode cX5_synchronize 61 = .ok (.dup, 1) := by decide +kernel
theorem dX5_synchronize_62 : decode cX5_synchronize 62 = .ok (.getfield 189, 3) := by decide +kernel
theorem dX5_synchronize_65 : decode cX5_synchronize 65 = .ok (.iconst 1, 1) := by decide +kernel
theorem dX5_synchronize_66 : decode cX5_synchronize 66 = .ok (.iadd, 1) := by decide +kernel
theorem dX5_synchronize_67 : decode cX5_synchronize 67 = .ok (.putfield 189, 3) := by decide +kernel
theorem dX5_synchronize_70 : decode cX5_synchronize 70 = .ok (.iload_n 3, 1) := by decide +kernel
theorem dX5_synchronize_71 : decode cX5_synchronize 71 = .ok (.ireturn, 1) := by decide +kernel
theorem dX5_stratum_0 : decode cX5_stratum 0 = .ok (.aload_n 0, 1) := by decide +kernel
theorem dX5_stratum_1 : decode cX5_stratum 1 = .ok (.getfield 192, 3) := by decide +kernel
theorem dX5_stratum_4 : decode cX5_stratum 4 = .ok (.ireturn, 1) := by decide +kernel
theorem dX5_steps_0 : decode cX5_steps 0 = .ok (.aload_n 0, 1) := by decide +kernel
theorem dX5_steps_1 : decode cX5_steps 1 = .ok (.getfield 195, 3) := by decide +kernel
theorem dX5_steps_4 : decode cX5_steps 4 = .ok (.ireturn, 1) := by decide +kernel
theorem dX5_synchronizations_0 : decode cX5_synchronizations 0 = .ok (.aload_n 0, 1) := by decide +kernel
theorem dX5_synchronizations_1 : decode cX5_synchronizations 1 = .ok (.getfield 189, 3) := by decide +kernel
theorem dX5_synchronizations_4 : decode cX5_synchronizations 4 = .ok (.ireturn, 1) := by decide +kernel
theorem dX5_isWithin_0 : decode cX5_isWithin 0 = .ok (.iload_n 0, 1) := by decide +kernel
theorem dX5_isWithin_1 : decode cX5_isWithin 1 = .ok (.iload_n 1, 1) := by decide +kernel
theorem dX5_isWithin_2 : decode cX5_isWithin 2 = .ok (.if_icmp .lt 12, 3) := by decide +kernel
theorem dX5_isWithin_5 : decode cX5_isWithin 5 = .ok (.iload_n 0, 1) := by decide +kernel
theorem dX5_isWithin_6 : decode cX5_isWithin 6 = .ok (.iload_n 2, 1) := by decide +kernel
theorem dX5_isWithin_7 : decode cX5_isWithin 7 = .ok (.if_icmp .gt 7, 3) := by decide +kernel
theorem dX5_isWithin_10 : decode cX5_isWithin 10 = .ok (.iconst 1, 1) := by decide +kernel
theorem dX5_isWithin_11 : decode cX5_isWithin 11 = .ok (.goto 4, 3) := by decide +kernel
theorem dX5_isWithin_14 : decode cX5_isWithin 14 = .ok (.iconst 0, 1) := by decide +kernel
theorem dX5_isWithin_15 : decode cX5_isWithin 15 = .ok (.ireturn, 1) := by decide +kernel
theorem dX5_isServerError_0 : decode cX5_isServerError 0 = .ok (.iload_n 0, 1) := by decide +kernel
theorem dX5_isServerError_1 : decode cX5_isServerError 1 = .ok (.ldc 198, 2) := by decide +kernel
theorem dX5_isServerError_3 : decode cX5_isServerError 3 = .ok (.ldc 98, 2) := by decide +kernel
theorem dX5_isServerError_5 : decode cX5_isServerError 5 = .ok (.invokestatic 43, 3) := by decide +kernel
theorem dX5_isServerError_8 : decode cX5_isServerError 8 = .ok (.ireturn, 1) := by decide +kernel
theorem dX5_begin_0 : decode cX5_begin 0 = .ok (.aload_n 0, 1) := by decide +kernel
theorem dX5_begin_1 : decode cX5_begin 1 = .ok (.getfield 10, 3) := by decide +kernel
theorem dX5_begin_4 : decode cX5_begin 4 = .ok (.iload_n 1, 1) := by decide +kernel
theorem dX5_begin_5 : decode cX5_begin 5 = .ok (.invokevirtual 199, 3) := by decide +kernel
theorem dX5_begin_8 : decode cX5_begin 8 = .ok (.aload_n 0, 1) := by decide +kernel
theorem dX5_begin_9 : decode cX5_begin 9 = .ok (.getfield 19, 3) := by decide +kernel
theorem dX5_begin_12 : decode cX5_begin 12 = .ok (.invokevirtual 200, 3) := by decide +kernel
theorem dX5_begin_15 : decode cX5_begin 15 = .ok (.aload_n 0, 1) := by decide +kernel
theorem dX5_begin_16 : decode cX5_begin 16 = .ok (.iconst 0, 1) := by decide +kernel
theorem dX5_begin_17 : decode cX5_begin 17 = .ok (.putfield 99, 3) := by decide +kernel
theorem dX5_begin_20 : decode cX5_begin 20 = .ok (.aload_n 0, 1) := by decide +kernel
theorem dX5_begin_21 : decode cX5_begin 21 = .ok (.lconst 0, 1) := by decide +kernel
theorem dX5_begin_22 : decode cX5_begin 22 = .ok (.putfield 68, 3) := by decide +kernel
theorem dX5_begin_25 : decode cX5_begin 25 = .ok (.aload_n 0, 1) := by decide +kernel
theorem dX5_begin_26 : decode cX5_begin 26 = .ok (.bipush 16, 2) := by decide +kernel
theorem dX5_begin_28 : decode cX5_begin 28 = .ok (.putfield 192, 3) := by decide +kernel
theorem dX5_begin_31 : decode cX5_begin 31 = .ok (.aload_n 0, 1) := by decide +kernel
theorem dX5_begin_32 : decode cX5_begin 32 = .ok (.iconst 0, 1) := by decide +kernel
theorem dX5_begin_33 : decode cX5_begin 33 = .ok (.putfield 195, 3) := by decide +kernel
theorem dX5_begin_36 : decode cX5_begin 36 = .ok (.aload_n 0, 1) := by decide +kernel
theorem dX5_begin_37 : decode cX5_begin 37 = .ok (.iconst 0, 1) := by decide +kernel
theorem dX5_begin_38 : decode cX5_begin 38 = .ok (.putfield 189, 3) := by decide +kernel
theorem dX5_begin_41 : decode cX5_begin 41 = .ok (.aload_n 0, 1) := by decide +kernel
theorem dX5_begin_42 : decode cX5_begin 42 = .ok (.lconst 0, 1) := by decide +kernel
theorem dX5_begin_43 : decode cX5_begin 43 = .ok (.putfield 186, 3) := by decide +kernel
theorem dX5_begin_46 : decode cX5_begin 46 = .ok (.return_, 1) := by decide +kernel
theorem dX5_isBeyondLastTrueTime_0 : decode cX5_isBeyondLastTrueTime 0 = .ok (.aload_n 0, 1) := by decide +kernel
theorem dX5_isBeyondLastTrueTime_1 : decode cX5_isBeyondLastTrueTime 1 = .ok (.getfield 68, 3) := by decide +kernel
theorem dX5_isBeyondLastTrueTime_4 : decode cX5_isBeyondLastTrueTime 4 = .ok (.lload_n 1, 1) := by decide +kernel
theorem dX5_isBeyondLastTrueTime_5 : decode cX5_isBeyondLastTrueTime 5 = .ok (.ladd, 1) := by decide +kernel
theorem dX5_isBeyondLastTrueTime_6 : decode cX5_isBeyondLastTrueTime 6 = .ok (.ldc2_w 203, 3) := by decide +kernel
theorem dX5_isBeyondLastTrueTime_9 : decode cX5_isBeyondLastTrueTime 9 = .ok (.lcmp, 1) := by decide +kernel
theorem dX5_isBeyondLastTrueTime_10 : decode cX5_isBeyondLastTrueTime 10 = .ok (.ifCond .le 7, 3) := by decide +kernel
theorem dX5_isBeyondLastTrueTime_13 : decode cX5_isBeyondLastTrueTime 13 = .ok (.iconst 1, 1) := by decide +kernel
theorem dX5_isBeyondLastTrueTime_14 : decode cX5_isBeyondLastTrueTime 14 = .ok (.goto 4, 3) := by decide +kernel
theorem dX5_isBeyondLastTrueTime_17 : decode cX5_isBeyondLastTrueTime 17 = .ok (.iconst 0, 1) := by decide +kernel
theorem dX5_isBeyondLastTrueTime_18 : decode cX5_isBeyondLastTrueTime 18 = .ok (.ireturn, 1) := by decide +kernel
theorem dX5_elapse_0 : decode cX5_elapse 0 = .ok (.aload_n 0, 1) := by decide +kernel
theorem dX5_elapse_1 : decode cX5_elapse 1 = .ok (.dup, 1) := by decide +kernel
theorem dX5_elapse_2 : decode cX5_elapse 2 = .ok (.getfield 68, 3) := by decide +kernel
theorem dX5_elapse_5 : decode cX5_elapse 5 = .ok (.iload_n 1, 1) := by decide +kernel
theorem dX5_elapse_6 : decode cX5_elapse 6 = .ok (.i2l, 1) := by decide +kernel
theorem dX5_elapse_7 : decode cX5_elapse 7 = .ok (.ladd, 1) := by decide +kernel
theorem dX5_elapse_8 : decode cX5_elapse 8 = .ok (.putfield 68, 3) := by decide +kernel
theorem dX5_elapse_11 : decode cX5_elapse 11 = .ok (.aload_n 0, 1) := by decide +kernel
theorem dX5_elapse_12 : decode cX5_elapse 12 = .ok (.getfield 10, 3) := by decide +kernel
theorem dX5_elapse_15 : decode cX5_elapse 15 = .ok (.iload_n 1, 1) := by decide +kernel
theorem dX5_elapse_16 : decode cX5_elapse 16 = .ok (.invokevirtual 205, 3) := by decide +kernel
theorem dX5_elapse_19 : decode cX5_elapse 19 = .ok (.return_, 1) := by decide +kernel
theorem dX5_roomOrNull_0 : decode cX5_roomOrNull 0 = .ok (.iload_n 1, 1) := by decide +kernel
theorem dX5_roomOrNull_1 : decode cX5_roomOrNull 1 = .ok (.ifCond .lt 21, 3) := by decide +kernel
theorem dX5_roomOrNull_4 : decode cX5_roomOrNull 4 = .ok (.iload_n 1, 1) := by decide +kernel
theorem dX5_roomOrNull_5 : decode cX5_roomOrNull 5 = .ok (.aload_n 0, 1) := by decide +kernel
theorem dX5_roomOrNull_6 : decode cX5_roomOrNull 6 = .ok (.getfield 25, 3) := by decide +kernel
theorem dX5_roomOrNull_9 : decode cX5_roomOrNull 9 = .ok (.arraylength, 1) := by decide +kernel
theorem dX5_roomOrNull_10 : decode cX5_roomOrNull 10 = .ok (.if_icmp .ge 12, 3) := by decide +kernel
theorem dX5_roomOrNull_13 : decode cX5_roomOrNull 13 = .ok (.aload_n 0, 1) := by decide +kernel
theorem dX5_roomOrNull_14 : decode cX5_roomOrNull 14 = .ok (.getfield 25, 3) := by decide +kernel
theorem dX5_roomOrNull_17 : decode cX5_roomOrNull 17 = .ok (.iload_n 1, 1) := by decide +kernel
theorem dX5_roomOrNull_18 : decode cX5_roomOrNull 18 = .ok (.aaload, 1) := by decide +kernel
theorem dX5_roomOrNull_19 : decode cX5_roomOrNull 19 = .ok (.goto 4, 3) := by decide +kernel
theorem dX5_roomOrNull_22 : decode cX5_roomOrNull 22 = .ok (.aconst_null, 1) := by decide +kernel
theorem dX5_roomOrNull_23 : decode cX5_roomOrNull 23 = .ok (.areturn, 1) := by decide +kernel
theorem dX5_serverOrNull_0 : decode cX5_serverOrNull 0 = .ok (.iload_n 1, 1) := by decide +kernel
theorem dX5_serverOrNull_1 : decode cX5_serverOrNull 1 = .ok (.aload_n 0, 1) := by decide +kernel
theorem dX5_serverOrNull_2 : decode cX5_serverOrNull 2 = .ok (.getfield 99, 3) := by decide +kernel
theorem dX5_serverOrNull_5 : decode cX5_serverOrNull 5 = .ok (.if_icmp .ge 11, 3) := by decide +kernel
theorem dX5_serverOrNull_8 : decode cX5_serverOrNull 8 = .ok (.aload_n 0, 1) := by decide +kernel
theorem dX5_serverOrNull_9 : decode cX5_serverOrNull 9 = .ok (.iload_n 1, 1) := by decide +kernel
theorem dX5_serverOrNull_10 : decode cX5_serverOrNull 10 = .ok (.invokevirtual 103, 3) := by decide +kernel
theorem dX5_serverOrNull_13 : decode cX5_serverOrNull 13 = .ok (.goto 4, 3) := by decide +kernel
theorem dX5_serverOrNull_16 : decode cX5_serverOrNull 16 = .ok (.aconst_null, 1) := by decide +kernel
theorem dX5_serverOrNull_17 : decode cX5_serverOrNull 17 = .ok (.areturn, 1) := by decide +kernel
theorem dX5_knownServer_0 : decode cX5_knownServer 0 = .ok (.aload_n 0, 1) := by decide +kernel
theorem dX5_knownServer_1 : decode cX5_knownServer 1 = .ok (.iload_n 1, 1) := by decide +kernel
theorem dX5_knownServer_2 : decode cX5_knownServer 2 = .ok (.invokevirtual 206, 3) := by decide +kernel
theorem dX5_knownServer_5 : decode cX5_knownServer 5 = .ok (.astore_n 2, 1) := by decide +kernel
theorem dX5_knownServer_6 : decode cX5_knownServer 6 = .ok (.aload_n 2, 1) := by decide +kernel
theorem dX5_knownServer_7 : decode cX5_knownServer 7 = .ok (.ifnonnull 11, 3) := by decide +kernel
theorem dX5_knownServer_10 : decode cX5_knownServer 10 = .ok (.new 209, 3) := by decide +kernel
theorem dX5_knownServer_13 : decode cX5_knownServer 13 = .ok (.dup, 1) := by decide +kernel
theorem dX5_knownServer_14 : decode cX5_knownServer 14 = .ok (.invokespecial 211, 3) := by decide +kernel
theorem dX5_knownServer_17 : decode cX5_knownServer 17 = .ok (.athrow, 1) := by decide +kernel
theorem dX5_knownServer_18 : decode cX5_knownServer 18 = .ok (.aload_n 2, 1) := by decide +kernel
theorem dX5_knownServer_19 : decode cX5_knownServer 19 = .ok (.areturn, 1) := by decide +kernel
theorem dX5_heardServer_0 : decode cX5_heardServer 0 = .ok (.aload_n 0, 1) := by decide +kernel
theorem dX5_heardServer_1 : decode cX5_heardServer 1 = .ok (.iload_n 1, 1) := by decide +kernel
theorem dX5_heardServer_2 : decode cX5_heardServer 2 = .ok (.invokevirtual 111, 3) := by decide +kernel
theorem dX5_heardServer_5 : decode cX5_heardServer 5 = .ok (.astore_n 2, 1) := by decide +kernel
theorem dX5_heardServer_6 : decode cX5_heardServer 6 = .ok (.aload_n 2, 1) := by decide +kernel
theorem dX5_heardServer_7 : decode cX5_heardServer 7 = .ok (.invokevirtual 123, 3) := by decide +kernel
theorem dX5_heardServer_10 : decode cX5_heardServer 10 = .ok (.ifCond .ne 11, 3) := by decide +kernel
theorem dX5_heardServer_13 : decode cX5_heardServer 13 = .ok (.new 54, 3) := by decide +kernel
theorem dX5_heardServer_16 : decode cX5_heardServer 16 = .ok (.dup, 1) := by decide +kernel
theorem dX5_heardServer_17 : decode cX5_heardServer 17 = .ok (.invokespecial 56, 3) := by decide +kernel
theorem dX5_heardServer_20 : decode cX5_heardServer 20 = .ok (.athrow, 1) := by decide +kernel
theorem dX5_heardServer_21 : decode cX5_heardServer 21 = .ok (.aload_n 2, 1) := by decide +kernel
theorem dX5_heardServer_22 : decode cX5_heardServer 22 = .ok (.areturn, 1) := by decide +kernel
theorem dX5_takeSample_0 : decode cX5_takeSample 0 = .ok (.aload_n 0, 1) := by decide +kernel
theorem dX5_takeSample_1 : decode cX5_takeSample 1 = .ok (.getfield 10, 3) := by decide +kernel
theorem dX5_takeSample_4 : decode cX5_takeSample 4 = .ok (.invokevirtual 60, 3) := by decide +kernel
theorem dX5_takeSample_7 : decode cX5_takeSample 7 = .ok (.lstore 5, 2) := by decide +kernel
theorem dX5_takeSample_9 : decode cX5_takeSample 9 = .ok (.aload_n 0, 1) := by decide +kernel
theorem dX5_takeSample_10 : decode cX5_takeSample 10 = .ok (.iload_n 2, 1) := by decide +kernel
theorem dX5_takeSample_11 : decode cX5_takeSample 11 = .ok (.invokevirtual 57, 3) := by decide +kernel
theorem dX5_takeSample_14 : decode cX5_takeSample 14 = .ok (.aload_n 1, 1) := by decide +kernel
theorem dX5_takeSample_15 : decode cX5_takeSample 15 = .ok (.aload_n 0, 1) := by decide +kernel
theorem dX5_takeSample_16 : decode cX5_takeSample 16 = .ok (.getfield 68, 3) := by decide +kernel
theorem dX5_takeSample_19 : decode cX5_takeSample 19 = .ok (.invokevirtual 212, 3) := by decide +kernel
theorem dX5_takeSample_22 : decode cX5_takeSample 22 = .ok (.lstore 7, 2) := by decide +kernel
theorem dX5_takeSample_24 : decode cX5_takeSample 24 = .ok (.aload_n 0, 1) := by decide +kernel
theorem dX5_takeSample_25 : decode cX5_takeSample 25 = .ok (.iload_n 3, 1) := by decide +kernel
theorem dX5_takeSample_26 : decode cX5_takeSample 26 = .ok (.invokevirtual 57, 3) := by decide +kernel
theorem dX5_takeSample_29 : decode cX5_takeSample 29 = .ok (.aload_n 1, 1) := by decide +kernel
theorem dX5_takeSample_30 : decode cX5_takeSample 30 = .ok (.aload_n 0, 1) := by decide +kernel
theorem dX5_takeSample_31 : decode cX5_takeSample 31 = .ok (.getfield 68, 3) := by decide +kernel
theorem dX5_takeSample_34 : decode cX5_takeSample 34 = .ok (.invokevirtual 212, 3) := by decide +kernel
theorem dX5_takeSample_37 : decode cX5_takeSample 37 = .ok (.lstore 9, 2) := by decide +kernel
theorem dX5_takeSample_39 : decode cX5_takeSample 39 = .ok (.aload_n 0, 1) := by decide +kernel
theorem dX5_takeSample_40 : decode cX5_takeSample 40 = .ok (.iload 4, 2) := by decide +kernel
theorem dX5_takeSample_42 : decode cX5_takeSample 42 = .ok (.invokevirtual 57, 3) := by decide +kernel
theorem dX5_takeSample_45 : decode cX5_takeSample 45 = .ok (.aload_n 0, 1) := by decide +kernel
theorem dX5_takeSample_46 : decode cX5_takeSample 46 = .ok (.getfield 10, 3) := by decide +kernel
theorem dX5_takeSample_49 : decode cX5_takeSample 49 = .ok (.invokevirtual 60, 3) := by decide +kernel
theorem dX5_takeSample_52 : decode cX5_takeSample 52 = .ok (.lstore 11, 2) := by decide +kernel
theorem dX5_takeSample_54 : decode cX5_takeSample 54 = .ok (.lload 7, 2) := by decide +kernel
theorem dX5_takeSample_56 : decode cX5_takeSample 56 = .ok (.lload 5, 2) := by decide +kernel
theorem dX5_takeSample_58 : decode cX5_takeSample 58 = .ok (.lsub, 1) := by decide +kernel
theorem dX5_takeSample_59 : decode cX5_takeSample 59 = .ok (.lload 9, 2) := by decide +kernel
theorem dX5_takeSample_61 : decode cX5_takeSample 61 = .ok (.lload 11, 2) := by decide +kernel
theorem dX5_takeSample_63 : decode cX5_takeSample 63 = .ok (.lsub, 1) := by decide +kernel
theorem dX5_takeSample_64 : decode cX5_takeSample 64 = .ok (.ladd, 1) := by decide +kernel
theorem dX5_takeSample_65 : decode cX5_takeSample 65 = .ok (.ldc2_w 215, 3) := by decide +kernel
theorem dX5_takeSample_68 : decode cX5_takeSample 68 = .ok (.invokestatic 217, 3) := by decide +kernel
theorem dX5_takeSample_71 : decode cX5_takeSample 71 = .ok (.lstore 13, 2) := by decide +kernel
theorem dX5_takeSample_73 : decode cX5_takeSample 73 = .ok (.lconst 0, 1) := by decide +kernel
theorem dX5_takeSample_74 : decode cX5_takeSample 74 = .ok (.lload 11, 2) := by decide +kernel
theorem dX5_takeSample_76 : decode cX5_takeSample 76 = .ok (.lload 5, 2) := by decide +kernel
theorem dX5_takeSample_78 : decode cX5_takeSample 78 = .ok (.lsub, 1) := by decide +kernel
theorem dX5_takeSample_79 : decode cX5_takeSample 79 = .ok (.lload 9, 2) := by decide +kernel
theorem dX5_takeSample_81 : decode cX5_takeSample 81 = .ok (.lload 7, 2) := by decide +kernel
theorem dX5_takeSample_83 : decode cX5_takeSample 83 = .ok (.lsub, 1) := by decide +kernel
theorem dX5_takeSample_84 : decode cX5_takeSample 84 = .ok (.lsub, 1) := by decide +kernel
theorem dX5_takeSample_85 : decode cX5_takeSample 85 = .ok (.invokestatic 223, 3) := by decide +kernel
theorem dX5_takeSample_88 : decode cX5_takeSample 88 = .ok (.lstore 15, 2) := by decide +kernel
theorem dX5_takeSample_90 : decode cX5_takeSample 90 = .ok (.aload_n 1, 1) := by decide +kernel
theorem dX5_takeSample_91 : decode cX5_takeSample 91 = .ok (.lload 13, 2) := by decide +kernel
theorem dX5_takeSample_93 : decode cX5_takeSample 93 = .ok (.lload 15, 2) := by decide +kernel
theorem dX5_takeSample_95 : decode cX5_takeSample 95 = .ok (.lload 11, 2) := by decide +kernel
theorem dX5_takeSample_97 : decode cX5_takeSample 97 = .ok (.invokevirtual 226, 3) := by decide +kernel
theorem dX5_takeSample_100 : decode cX5_takeSample 100 = .ok (.lload 15, 2) := by decide +kernel
theorem dX5_takeSample_102 : decode cX5_takeSample 102 = .ok (.lreturn, 1) := by decide +kernel
theorem dX5_select_0 : decode cX5_select 0 = .ok (.aload_n 0, 1) := by decide +kernel
theorem dX5_select_1 : decode cX5_select 1 = .ok (.getfield 10, 3) := by decide +kernel
theorem dX5_select_4 : decode cX5_select 4 = .ok (.invokevirtual 60, 3) := by decide +kernel
theorem dX5_select_7 : decode cX5_select 7 = .ok (.lstore_n 1, 1) := by decide +kernel
theorem dX5_select_8 : decode cX5_select 8 = .ok (.aload_n 0, 1) := by decide +kernel
theorem dX5_select_9 : decode cX5_select 9 = .ok (.getfield 32, 3) := by decide +kernel
theorem dX5_select_12 : decode cX5_select 12 = .ok (.invokevirtual 230, 3) := by decide +kernel
theorem dX5_select_15 : decode cX5_select 15 = .ok (.iconst 0, 1) := by decide +kernel
theorem dX5_select_16 : decode cX5_select 16 = .ok (.istore_n 3, 1) := by decide +kernel
theorem dX5_select_17 : decode cX5_select 17 = .ok (.iload_n 3, 1) := by decide +kernel
theorem dX5_select_18 : decode cX5_select 18 = .ok (.aload_n 0, 1) := by decide +kernel
theorem dX5_select_19 : decode cX5_select 19 = .ok (.getfield 99, 3) := by decide +kernel
theorem dX5_select_22 : decode cX5_select 22 = .ok (.if_icmp .ge 46, 3) := by decide +kernel
theorem dX5_select_25 : decode cX5_select 25 = .ok (.iload_n 3, 1) := by decide +kernel
theorem dX5_select_26 : decode cX5_select 26 = .ok (.bipush 8, 2) := by decide +kernel
theorem dX5_select_28 : decode cX5_select 28 = .ok (.if_icmp .ge 40, 3) := by decide +kernel
theorem dX5_select_31 : decode cX5_select 31 = .ok (.aload_n 0, 1) := by decide +kernel
theorem dX5_select_32 : decode cX5_select 32 = .ok (.iload_n 3, 1) := by decide +kernel
theorem dX5_select_33 : decode cX5_select 33 = .ok (.invokevirtual 206, 3) := by decide +kernel
theorem dX5_select_36 : decode cX5_select 36 = .ok (.astore 4, 2) := by decide +kernel
theorem dX5_select_38 : decode cX5_select 38 = .ok (.aload 4, 2) := by decide +kernel
theorem dX5_select_40 : decode cX5_select 40 = .ok (.ifnull 22, 3) := by decide +kernel
theorem dX5_select_43 : decode cX5_select 43 = .ok (.aload 4, 2) := by decide +kernel
theorem dX5_select_45 : decode cX5_select 45 = .ok (.invokevirtual 123, 3) := by decide +kernel
theorem dX5_select_48 : decode cX5_select 48 = .ok (.ifCond .le 14, 3) := by decide +kernel
theorem dX5_select_51 : decode cX5_select 51 = .ok (.aload_n 0, 1) := by decide +kernel
theorem dX5_select_52 : decode cX5_select 52 = .ok (.getfield 32, 3) := by decide +kernel
theorem dX5_select_55 : decode cX5_select 55 = .ok (.iload_n 3, 1) := by decide +kernel
theorem dX5_select_56 : decode cX5_select 56 = .ok (.aload 4, 2) := by decide +kernel
theorem dX5_select_58 : decode cX5_select 58 = .ok (.lload_n 1, 1) := by decide +kernel
theorem dX5_select_59 : decode cX5_select 59 = .ok (.invokevirtual 231, 3) := by decide +kernel
theorem dX5_select_62 : decode cX5_select 62 = .ok (.iinc 3 1, 3) := by decide +kernel
theorem dX5_select_65 : decode cX5_select 65 = .ok (.goto (-48), 3) := by decide +kernel
theorem dX5_select_68 : decode cX5_select 68 = .ok (.aload_n 0, 1) := by decide +kernel
theorem dX5_select_69 : decode cX5_select 69 = .ok (.getfield 32, 3) := by decide +kernel
theorem dX5_select_72 : decode cX5_select 72 = .ok (.invokevirtual 235, 3) := by decide +kernel
theorem dX5_select_75 : decode cX5_select 75 = .ok (.aload_n 0, 1) := by decide +kernel
theorem dX5_select_76 : decode cX5_select 76 = .ok (.getfield 32, 3) := by decide +kernel
theorem dX5_select_79 : decode cX5_select 79 = .ok (.invokevirtual 238, 3) := by decide +kernel
theorem dX5_select_82 : decode cX5_select 82 = .ok (.return_, 1) := by decide +kernel
theorem dX5_selectFromSome_0 : decode cX5_selectFromSome 0 = .ok (.aload_n 0, 1) := by decide +kernel
theorem dX5_selectFromSome_1 : decode cX5_selectFromSome 1 = .ok (.invokevirtual 141, 3) := by decide +kernel
theorem dX5_selectFromSome_4 : decode cX5_selectFromSome 4 = .ok (.aload_n 0, 1) := by decide +kernel
theorem dX5_selectFromSome_5 : decode cX5_selectFromSome 5 = .ok (.getfield 32, 3) := by decide +kernel
theorem dX5_selectFromSome_8 : decode cX5_selectFromSome 8 = .ok (.invokevirtual 241, 3) := by decide +kernel
theorem dX5_selectFromSome_11 : decode cX5_selectFromSome 11 = .ok (.ifCond .eq 11, 3) := by decide +kernel
theorem dX5_selectFromSome_14 : decode cX5_selectFromSome 14 = .ok (.new 54, 3) := by decide +kernel
theorem dX5_selectFromSome_17 : decode cX5_selectFromSome 17 = .ok (.dup, 1) := by decide +kernel
theorem dX5_selectFromSome_18 : decode cX5_selectFromSome 18 = .ok (.invokespecial 56, 3) := by decide +kernel
theorem dX5_selectFromSome_21 : decode cX5_selectFromSome 21 = .ok (.athrow, 1) := by decide +kernel
theorem dX5_selectFromSome_22 : decode cX5_selectFromSome 22 = .ok (.return_, 1) := by decide +kernel
theorem dX5_correctRate_0 : decode cX5_correctRate 0 = .ok (.aload_n 0, 1) := by decide +kernel
theorem dX5_correctRate_1 : decode cX5_correctRate 1 = .ok (.getfield 10, 3) := by decide +kernel
theorem dX5_correctRate_4 : decode cX5_correctRate 4 = .ok (.invokevirtual 60, 3) := by decide +kernel
theorem dX5_correctRate_7 : decode cX5_correctRate 7 = .ok (.aload_n 0, 1) := by decide +kernel
theorem dX5_correctRate_8 : decode cX5_correctRate 8 = .ok (.getfield 186, 3) := by decide +kernel
theorem dX5_correctRate_11 : decode cX5_correctRate 11 = .ok (.lsub, 1) := by decide +kernel
theorem dX5_correctRate_12 : decode cX5_correctRate 12 = .ok (.lstore_n 3, 1) := by decide +kernel
theorem dX5_correctRate_13 : decode cX5_correctRate 13 = .ok (.aload_n 0, 1) := by decide +kernel
theorem dX5_correctRate_14 : decode cX5_correctRate 14 = .ok (.getfield 189, 3) := by decide +kernel
theorem dX5_correctRate_17 : decode cX5_correctRate 17 = .ok (.ifCond .le 31, 3) := by decide +kernel
theorem dX5_correctRate_20 : decode cX5_correctRate 20 = .ok (.lload_n 3, 1) := by decide +kernel
theorem dX5_correctRate_21 : decode cX5_correctRate 21 = .ok (.lconst 0, 1) := by decide +kernel
theorem dX5_correctRate_22 : decode cX5_correctRate 22 = .ok (.lcmp, 1) := by decide +kernel
theorem dX5_correctRate_23 : decode cX5_correctRate 23 = .ok (.ifCond .le 25, 3) := by decide +kernel
theorem dX5_correctRate_26 : decode cX5_correctRate 26 = .ok (.lload_n 1, 1) := by decide +kernel
theorem dX5_correctRate_27 : decode cX5_correctRate 27 = .ok (.ldc2_w 244, 3) := by decide +kernel
theorem dX5_correctRate_30 : decode cX5_correctRate 30 = .ok (.lmul, 1) := by decide +kernel
theorem dX5_correctRate_31 : decode cX5_correctRate 31 = .ok (.lload_n 3, 1) := by decide +kernel
theorem dX5_correctRate_32 : decode cX5_correctRate 32 = .ok (.ldiv, 1) := by decide +kernel
theorem dX5_correctRate_33 : decode cX5_correctRate 33 = .ok (.lstore 5, 2) := by decide +kernel
theorem dX5_correctRate_35 : decode cX5_correctRate 35 = .ok (.aload_n 0, 1) := by decide +kernel
theorem dX5_correctRate_36 : decode cX5_correctRate 36 = .ok (.getfield 10, 3) := by decide +kernel
theorem dX5_correctRate_39 : decode cX5_correctRate 39 = .ok (.lload 5, 2) := by decide +kernel
theorem dX5_correctRate_41 : decode cX5_correctRate 41 = .ok (.ldc2_w 246, 3) := by decide +kernel
theorem dX5_correctRate_44 : decode cX5_correctRate 44 = .ok (.ldiv, 1) := by decide +kernel
theorem dX5_correctRate_45 : decode cX5_correctRate 45 = .ok (.invokevirtual 248, 3) := by decide +kernel
theorem dX5_correctRate_48 : decode cX5_correctRate 48 = .ok (.return_, 1) := by decide +kernel
theorem dX5_correctTime_0 : decode cX5_correctTime 0 = .ok (.lload_n 1, 1) := by decide +kernel
theorem dX5_correctTime_1 : decode cX5_correctTime 1 = .ok (.ldc2_w 251, 3) := by decide +kernel
theorem dX5_correctTime_4 : decode cX5_correctTime 4 = .ok (.lcmp, 1) := by decide +kernel
theorem dX5_correctTime_5 : decode cX5_correctTime 5 = .ok (.ifCond .le 23, 3) := by decide +kernel
theorem dX5_correctTime_8 : decode cX5_correctTime 8 = .ok (.aload_n 0, 1) := by decide +kernel
theorem dX5_correctTime_9 : decode cX5_correctTime 9 = .ok (.getfield 10, 3) := by decide +kernel
theorem dX5_correctTime_12 : decode cX5_correctTime 12 = .ok (.lload_n 1, 1) := by decide +kernel
theorem dX5_correctTime_13 : decode cX5_correctTime 13 = .ok (.invokevirtual 253, 3) := by decide +kernel
theorem dX5_correctTime_16 : decode cX5_correctTime 16 = .ok (.aload_n 0, 1) := by decide +kernel
theorem dX5_correctTime_17 : decode cX5_correctTime 17 = .ok (.dup, 1) := by decide +kernel
theorem dX5_correctTime_18 : decode cX5_correctTime 18 = .ok (.getfield 195, 3) := by decide +kernel
theorem dX5_correctTime_21 : decode cX5_correctTime 21 = .ok (.iconst 1, 1) := by decide +kernel
theorem dX5_correctTime_22 : decode cX5_correctTime 22 = .ok (.iadd, 1) := by decide +kernel
theorem dX5_correctTime_23 : decode cX5_correctTime 23 = .ok (.putfield 195, 3) := by decide +kernel
theorem dX5_correctTime_26 : decode cX5_correctTime 26 = .ok (.iconst 1, 1) := by decide +kernel
theorem dX5_correctTime_27 : decode cX5_correctTime 27 = .ok (.ireturn, 1) := by decide +kernel
theorem dX5_correctTime_28 : decode cX5_correctTime 28 = .ok (.aload_n 0, 1) := by decide +kernel
theorem dX5_correctTime_29 : decode cX5_correctTime 29 = .ok (.getfield 10, 3) := by decide +kernel
theorem dX5_correctTime_32 : decode cX5_correctTime 32 = .ok (.lload_n 1, 1) := by decide +kernel
theorem dX5_correctTime_33 : decode cX5_correctTime 33 = .ok (.invokevirtual 256, 3) := by decide +kernel
theorem dX5_correctTime_36 : decode cX5_correctTime 36 = .ok (.iconst 0, 1) := by decide +kernel
theorem dX5_correctTime_37 : decode cX5_correctTime 37 = .ok (.ireturn, 1) := by decide +kernel
theorem dX5_takeStratumOfPeer_0 : decode cX5_takeStratumOfPeer 0 = .ok (.aload_n 0, 1) := by decide +kernel
theorem dX5_takeStratumOfPeer_1 : decode cX5_takeStratumOfPeer 1 = .ok (.invokevirtual 141, 3) := by decide +kernel
theorem dX5_takeStratumOfPeer_4 : decode cX5_takeStratumOfPeer 4 = .ok (.aload_n 0, 1) := by decide +kernel
theorem dX5_takeStratumOfPeer_5 : decode cX5_takeStratumOfPeer 5 = .ok (.aload_n 0, 1) := by decide +kernel
theorem dX5_takeStratumOfPeer_6 : decode cX5_takeStratumOfPeer 6 = .ok (.getfield 32, 3) := by decide +kernel
theorem dX5_takeStratumOfPeer_9 : decode cX5_takeStratumOfPeer 9 = .ok (.invokevirtual 169, 3) := by decide +kernel
theorem dX5_takeStratumOfPeer_12 : decode cX5_takeStratumOfPeer 12 = .ok (.invokevirtual 206, 3) := by decide +kernel
theorem dX5_takeStratumOfPeer_15 : decode cX5_takeStratumOfPeer 15 = .ok (.astore_n 1, 1) := by decide +kernel
theorem dX5_takeStratumOfPeer_16 : decode cX5_takeStratumOfPeer 16 = .ok (.aload_n 1, 1) := by decide +kernel
theorem dX5_takeStratumOfPeer_17 : decode cX5_takeStratumOfPeer 17 = .ok (.ifnull 13, 3) := by decide +kernel
theorem dX5_takeStratumOfPeer_20 : decode cX5_takeStratumOfPeer 20 = .ok (.aload_n 0, 1) := by decide +kernel
theorem dX5_takeStratumOfPeer_21 : decode cX5_takeStratumOfPeer 21 = .ok (.aload_n 1, 1) := by decide +kernel
theorem dX5_takeStratumOfPeer_22 : decode cX5_takeStratumOfPeer 22 = .ok (.invokevirtual 259, 3) := by decide +kernel
theorem dX5_takeStratumOfPeer_25 : decode cX5_takeStratumOfPeer 25 = .ok (.iconst 1, 1) := by decide +kernel
theorem dX5_takeStratumOfPeer_26 : decode cX5_takeStratumOfPeer 26 = .ok (.iadd, 1) := by decide +kernel
theorem dX5_takeStratumOfPeer_27 : decode cX5_takeStratumOfPeer 27 = .ok (.putfield 192, 3) := by decide +kernel
theorem dX5_takeStratumOfPeer_30 : decode cX5_takeStratumOfPeer 30 = .ok (.return_, 1) := by decide +kernel
theorem dX5_forgetSamples_0 : decode cX5_forgetSamples 0 = .ok (.iconst 0, 1) := by decide +kernel
theorem dX5_forgetSamples_1 : decode cX5_forgetSamples 1 = .ok (.istore_n 1, 1) := by decide +kernel
theorem dX5_forgetSamples_2 : decode cX5_forgetSamples 2 = .ok (.iload_n 1, 1) := by decide +kernel
theorem dX5_forgetSamples_3 : decode cX5_forgetSamples 3 = .ok (.aload_n 0, 1) := by decide +kernel
theorem dX5_forgetSamples_4 : decode cX5_forgetSamples 4 = .ok (.getfield 25, 3) := by decide +kernel
theorem dX5_forgetSamples_7 : decode cX5_forgetSamples 7 = .ok (.arraylength, 1) := by decide +kernel
theorem dX5_forgetSamples_8 : decode cX5_forgetSamples 8 = .ok (.if_icmp .ge 24, 3) := by decide +kernel
theorem dX5_forgetSamples_11 : decode cX5_forgetSamples 11 = .ok (.aload_n 0, 1) := by decide +kernel
theorem dX5_forgetSamples_12 : decode cX5_forgetSamples 12 = .ok (.getfield 25, 3) := by decide +kernel
theorem dX5_forgetSamples_15 : decode cX5_forgetSamples 15 = .ok (.iload_n 1, 1) := by decide +kernel
theorem dX5_forgetSamples_16 : decode cX5_forgetSamples 16 = .ok (.aaload, 1) := by decide +kernel
theorem dX5_forgetSamples_17 : decode cX5_forgetSamples 17 = .ok (.astore_n 2, 1) := by decide +kernel
theorem dX5_forgetSamples_18 : decode cX5_forgetSamples 18 = .ok (.aload_n 2, 1) := by decide +kernel
theorem dX5_forgetSamples_19 : decode cX5_forgetSamples 19 = .ok (.ifnull 7, 3) := by decide +kernel
theorem dX5_forgetSamples_22 : decode cX5_forgetSamples 22 = .ok (.aload_n 2, 1) := by decide +kernel
theorem dX5_forgetSamples_23 : decode cX5_forgetSamples 23 = .ok (.invokevirtual 262, 3) := by decide +kernel
theorem dX5_forgetSamples_26 : decode cX5_forgetSamples 26 = .ok (.iinc 1 1, 3) := by decide +kernel
theorem dX5_forgetSamples_29 : decode cX5_forgetSamples 29 = .ok (.goto (-27), 3) := by decide +kernel
theorem dX5_forgetSamples_32 : decode cX5_forgetSamples 32 = .ok (.return_, 1) := by decide +kernel
theorem dX6_init_0 : decode cX6_init 0 = .ok (.aload_n 0, 1) := by decide +kernel
theorem dX6_init_1 : decode cX6_init 1 = .ok (.invokespecial 1, 3) := by decide +kernel
theorem dX6_init_4 : decode cX6_init 4 = .ok (.aload_n 0, 1) := by decide +kernel
theorem dX6_init_5 : decode cX6_init 5 = .ok (.bipush 16, 2) := by decide +kernel
theorem dX6_init_7 : decode cX6_init 7 = .ok (.putfield 7, 3) := by decide +kernel
theorem dX6_init_10 : decode cX6_init 10 = .ok (.aload_n 0, 1) := by decide +kernel
theorem dX6_init_11 : decode cX6_init 11 = .ok (.bipush 21, 2) := by decide +kernel
theorem dX6_init_13 : decode cX6_init 13 = .ok (.newarray .int, 2) := by decide +kernel
theorem dX6_init_15 : decode cX6_init 15 = .ok (.putfield 13, 3) := by decide +kernel
theorem dX6_init_18 : decode cX6_init 18 = .ok (.aload_n 0, 1) := by decide +kernel
theorem dX6_init_19 : decode cX6_init 19 = .ok (.bipush 8, 2) := by decide +kernel
theorem dX6_init_21 : decode cX6_init 21 = .ok (.newarray .int, 2) := by decide +kernel
theorem dX6_init_23 : decode cX6_init 23 = .ok (.putfield 17, 3) := by decide +kernel
theorem dX6_init_26 : decode cX6_init 26 = .ok (.aload_n 0, 1) := by decide +kernel
theorem dX6_init_27 : decode cX6_init 27 = .ok (.bipush 8, 2) := by decide +kernel
theorem dX6_init_29 : decode cX6_init 29 = .ok (.newarray .int, 2) := by decide +kernel
theorem dX6_init_31 : decode cX6_init 31 = .ok (.putfield 20, 3) := by decide +kernel
theorem dX6_init_34 : decode cX6_init 34 = .ok (.aload_n 0, 1) := by decide +kernel
theorem dX6_init_35 : decode cX6_init 35 = .ok (.bipush 8, 2) := by decide +kernel
theorem dX6_init_37 : decode cX6_init 37 = .ok (.newarray .int, 2) := by decide +kernel
theorem dX6_init_39 : decode cX6_init 39 = .ok (.putfield 23, 3) := by decide +kernel
theorem dX6_init_42 : decode cX6_init 42 = .ok (.aload_n 0, 1) := by decide +kernel
theorem dX6_init_43 : decode cX6_init 43 = .ok (.bipush 8, 2) := by decide +kernel
theorem dX6_init_45 : decode cX6_init 45 = .ok (.newarray .int, 2) := by decide +kernel
theorem dX6_init_47 : decode cX6_init 47 = .ok (.putfield 26, 3) := by decide +kernel
theorem dX6_init_50 : decode cX6_init 50 = .ok (.aload_n 0, 1) := by decide +kernel
theorem dX6_init_51 : decode cX6_init 51 = .ok (.bipush 8, 2) := by decide +kernel
theorem dX6_init_53 : decode cX6_init 53 = .ok (.newarray .int, 2) := by decide +kernel
theorem dX6_init_55 : decode cX6_init 55 = .ok (.putfield 29, 3) := by decide +kernel
theorem dX6_init_58 : decode cX6_init 58 = .ok (.aload_n 0, 1) := by decide +kernel
theorem dX6_init_59 : decode cX6_init 59 = .ok (.bipush 64, 2) := by decide +kernel
theorem dX6_init_61 : decode cX6_init 61 = .ok (.newarray .long, 2) := by decide +kernel
theorem dX6_init_63 : decode cX6_init 63 = .ok (.putfield 32, 3) := by decide +kernel
theorem dX6_init_66 : decode cX6_init 66 = .ok (.aload_n 0, 1) := by decide +kernel
theorem dX6_init_67 : decode cX6_init 67 = .ok (.bipush 64, 2) := by decide +kernel
theorem dX6_init_69 : decode cX6_init 69 = .ok (.newarray .long, 2) := by decide +kernel
theorem dX6_init_71 : decode cX6_init 71 = .ok (.putfield 36, 3) := by decide +kernel
theorem dX6_init_74 : decode cX6_init 74 = .ok (.aload_n 0, 1) := by decide +kernel
theorem dX6_init_75 : decode cX6_init 75 = .ok (.bipush 64, 2) := by decide +kernel
theorem dX6_init_77 : decode cX6_init 77 = .ok (.newarray .long, 2) := by decide +kernel
theorem dX6_init_79 : decode cX6_init 79 = .ok (.putfield 39, 3) := by decide +kernel
theorem dX6_init_82 : decode cX6_init 82 = .ok (.aload_n 0, 1) := by decide +kernel
theorem dX6_init_83 : decode cX6_init 83 = .ok (.bipush 8, 2) := by decide +kernel
theorem dX6_init_85 : decode cX6_init 85 = .ok (.newarray .boolean, 2) := by decide +kernel
theorem dX6_init_87 : decode cX6_init 87 = .ok (.putfield 42, 3) := by decide +kernel
theorem dX6_init_90 : decode cX6_init 90 = .ok (.aload_n 0, 1) := by decide +kernel
theorem dX6_init_91 : decode cX6_init 91 = .ok (.bipush 8, 2) := by decide +kernel
theorem dX6_init_93 : decode cX6_init 93 = .ok (.newarray .boolean, 2) := by decide +kernel
theorem dX6_init_95 : decode cX6_init 95 = .ok (.putfield 46, 3) := by decide +kernel
theorem dX6_init_98 : decode cX6_init 98 = .ok (.return_, 1) := by decide +kernel
theorem dX6_refused_0 : decode cX6_refused 0 = .ok (.aload_n 0, 1) := by decide +kernel
theorem dX6_refused_1 : decode cX6_refused 1 = .ok (.iload_n 1, 1) := by decide +kernel
theorem dX6_refused_2 : decode cX6_refused 2 = .ok (.putfield 49, 3) := by decide +kernel
theorem dX6_refused_5 : decode cX6_refused 5 = .ok (.iload_n 1, 1) := by decide +kernel
theorem dX6_refused_6 : decode cX6_refused 6 = .ok (.ifCond .eq 7, 3) := by decide +kernel
theorem dX6_refused_9 : decode cX6_refused 9 = .ok (.iconst 1, 1) := by decide +kernel
theorem dX6_refused_10 : decode cX6_refused 10 = .ok (.goto 4, 3) := by decide +kernel
theorem dX6_refused_13 : decode cX6_refused 13 = .ok (.iconst 0, 1) := by decide +kernel
theorem dX6_refused_14 : decode cX6_refused 14 = .ok (.ireturn, 1) := by decide +kernel
theorem dX6_fine_0 : decode cX6_fine 0 = .ok (.aload_n 0, 1) := by decide +kernel
theorem dX6_fine_1 : decode cX6_fine 1 = .ok (.iconst 0, 1) := by decide +kernel
theorem dX6_fine_2 : decode cX6_fine 2 = .ok (.putfield 49, 3) := by decide +kernel
theorem dX6_fine_5 : decode cX6_fine 5 = .ok (.iload_n 1, 1) := by decide +kernel
theorem dX6_fine_6 : decode cX6_fine 6 = .ok (.ireturn, 1) := by decide +kernel
theorem dX6_fineLong_0 : decode cX6_fineLong 0 = .ok (.aload_n 0, 1) := by decide +kernel
theorem dX6_fineLong_1 : decode cX6_fineLong 1 = .ok (.iconst 0, 1) := by decide +kernel
theorem dX6_fineLong_2 : decode cX6_fineLong 2 = .ok (.putfield 49, 3) := by decide +kernel
theorem dX6_fineLong_5 : decode cX6_fineLong 5 = .ok (.lload_n 1, 1) := by decide +kernel
theorem dX6_fineLong_6 : decode cX6_fineLong 6 = .ok (.lreturn, 1) := by decide +kernel
theorem dX6_in_0 : decode cX6_in 0 = .ok (.lload_n 0, 1) := by decide +kernel
theorem dX6_in_1 : decode cX6_in 1 = .ok (.lload_n 2, 1) := by decide +kernel
theorem dX6_in_2 : decode cX6_in 2 = .ok (.lcmp, 1) := by decide +kernel
theorem dX6_in_3 : decode cX6_in 3 = .ok (.ifCond .lt 14, 3) := by decide +kernel
theorem dX6_in_6 : decode cX6_in 6 = .ok (.lload_n 0, 1) := by decide +kernel
theorem dX6_in_7 : decode cX6_in 7 = .ok (.lload 4, 2) := by decide +kernel
theorem dX6_in_9 : decode cX6_in 9 = .ok (.lcmp, 1) := by decide +kernel
theorem dX6_in_10 : decode cX6_in 10 = .ok (.ifCond .gt 7, 3) := by decide +kernel
theorem dX6_in_13 : decode cX6_in 13 = .ok (.iconst 1, 1) := by decide +kernel
theorem dX6_in_14 : decode cX6_in 14 = .ok (.goto 4, 3) := by decide +kernel
theorem dX6_in_17 : decode cX6_in 17 = .ok (.iconst 0, 1) := by decide +kernel
theorem dX6_in_18 : decode cX6_in 18 = .ok (.ireturn, 1) := by decide +kernel
theorem dX6_down_0 : decode cX6_down 0 = .ok (.lload_n 0, 1) := by decide +kernel
theorem dX6_down_1 : decode cX6_down 1 = .ok (.lload_n 2, 1) := by decide +kernel
theorem dX6_down_2 : decode cX6_down 2 = .ok (.ldiv, 1) := by decide +kernel
theorem dX6_down_3 : decode cX6_down 3 = .ok (.lstore 4, 2) := by decide +kernel
theorem dX6_down_5 : decode cX6_down 5 = .ok (.lload 4, 2) := by decide +kernel
theorem dX6_down_7 : decode cX6_down 7 = .ok (.lload_n 2, 1) := by decide +kernel
theorem dX6_down_8 : decode cX6_down 8 = .ok (.lmul, 1) := by decide +kernel
theorem dX6_down_9 : decode cX6_down 9 = .ok (.lload_n 0, 1) := by decide +kernel
theorem dX6_down_10 : decode cX6_down 10 = .ok (.lcmp, 1) := by decide +kernel
theorem dX6_down_11 : decode cX6_down 11 = .ok (.ifCond .le 10, 3) := by decide +kernel
theorem dX6_down_14 : decode cX6_down 14 = .ok (.lload 4, 2) := by decide +kernel
theorem dX6_down_16 : decode cX6_down 16 = .ok (.lconst 1, 1) := by decide +kernel
theorem dX6_down_17 : decode cX6_down 17 = .ok (.lsub, 1) := by decide +kernel
theorem dX6_down_18 : decode cX6_down 18 = .ok (.goto 5, 3) := by decide +kernel
theorem dX6_down_21 : decode cX6_down 21 = .ok (.lload 4, 2) := by decide +kernel
theorem dX6_down_23 : decode cX6_down 23 = .ok (.lreturn, 1) := by decide +kernel
theorem dX6_size_0 : decode cX6_size 0 = .ok (.lload_n 0, 1) := by decide +kernel
theorem dX6_size_1 : decode cX6_size 1 = .ok (.lconst 0, 1) := by decide +kernel
theorem dX6_size_2 : decode cX6_size 2 = .ok (.lcmp, 1) := by decide +kernel
theorem dX6_size_3 : decode cX6_size 3 = .ok (.ifCond .ge 8, 3) := by decide +kernel
theorem dX6_size_6 : decode cX6_size 6 = .ok (.lload_n 0, 1) := by decide +kernel
theorem dX6_size_7 : decode cX6_size 7 = .ok (.lneg, 1) := by decide +kernel
theorem dX6_size_8 : decode cX6_size 8 = .ok (.goto 4, 3) := by decide +kernel
theorem dX6_size_11 : decode cX6_size 11 = .ok (.lload_n 0, 1) := by decide +kernel
theorem dX6_size_12 : decode cX6_size 12 = .ok (.lreturn, 1) := by decide +kernel
theorem dX6_reading_0 : decode cX6_reading 0 = .ok (.aload_n 0, 1) := by decide +kernel
theorem dX6_reading_1 : decode cX6_reading 1 = .ok (.getfield 52, 3) := by decide +kernel
theorem dX6_reading_4 : decode cX6_reading 4 = .ok (.ldc2_w 56, 3) := by decide +kernel
theorem dX6_reading_7 : decode cX6_reading 7 = .ok (.invokestatic 58, 3) := by decide +kernel
theorem dX6_reading_10 : decode cX6_reading 10 = .ok (.lreturn, 1) := by decide +kernel
theorem dX6_restart_0 : decode cX6_restart 0 = .ok (.aload_n 0, 1) := by decide +kernel
theorem dX6_restart_1 : decode cX6_restart 1 = .ok (.iload_n 1, 1) := by decide +kernel
theorem dX6_restart_2 : decode cX6_restart 2 = .ok (.i2l, 1) := by decide +kernel
theorem dX6_restart_3 : decode cX6_restart 3 = .ok (.ldc2_w 62, 3) := by decide +kernel
theorem dX6_restart_6 : decode cX6_restart 6 = .ok (.ldc2_w 64, 3) := by decide +kernel
theorem dX6_restart_9 : decode cX6_restart 9 = .ok (.invokestatic 66, 3) := by decide +kernel
theorem dX6_restart_12 : decode cX6_restart 12 = .ok (.ifCond .eq 7, 3) := by decide +kernel
theorem dX6_restart_15 : decode cX6_restart 15 = .ok (.iconst 0, 1) := by decide +kernel
theorem dX6_restart_16 : decode cX6_restart 16 = .ok (.goto 4, 3) := by decide +kernel
theorem dX6_restart_19 : decode cX6_restart 19 = .ok (.iconst 1, 1) := by decide +kernel
theorem dX6_restart_20 : decode cX6_restart 20 = .ok (.invokevirtual 70, 3) := by decide +kernel
theorem dX6_restart_23 : decode cX6_restart 23 = .ok (.ifCond .eq 4, 3) := by decide +kernel
theorem dX6_restart_26 : decode cX6_restart 26 = .ok (.return_, 1) := by decide +kernel
theorem dX6_restart_27 : decode cX6_restart 27 = .ok (.aload_n 0, 1) := by decide +kernel
theorem dX6_restart_28 : decode cX6_restart 28 = .ok (.lconst 0, 1) := by decide +kernel
theorem dX6_restart_29 : decode cX6_restart 29 = .ok (.putfield 74, 3) := by decide +kernel
theorem dX6_restart_32 : decode cX6_restart 32 = .ok (.aload_n 0, 1) := by decide +kernel
theorem dX6_restart_33 : decode cX6_restart 33 = .ok (.iload_n 1, 1) := by decide +kernel
theorem dX6_restart_34 : decode cX6_restart 34 = .ok (.i2l, 1) := by decide +kernel
theorem dX6_restart_35 : decode cX6_restart 35 = .ok (.ldc2_w 56, 3) := by decide +kernel
theorem dX6_restart_38 : decode cX6_restart 38 = .ok (.lmul, 1) := by decide +kernel
theorem dX6_restart_39 : decode cX6_restart 39 = .ok (.putfield 52, 3) := by decide +kernel
theorem dX6_restart_42 : decode cX6_restart 42 = .ok (.aload_n 0, 1) := by decide +kernel
theorem dX6_restart_43 : decode cX6_restart 43 = .ok (.lconst 0, 1) := by decide +kernel
theorem dX6_restart_44 : decode cX6_restart 44 = .ok (.putfield 77, 3) := by decide +kernel
theorem dX6_restart_47 : decode cX6_restart 47 = .ok (.aload_n 0, 1) := by decide +kernel
theorem dX6_restart_48 : decode cX6_restart 48 = .ok (.iconst 0, 1) := by decide +kernel
theorem dX6_restart_49 : decode cX6_restart 49 = .ok (.putfield 80, 3) := by decide +kernel
theorem dX6_restart_52 : decode cX6_restart 52 = .ok (.aload_n 0, 1) := by decide +kernel
theorem dX6_restart_53 : decode cX6_restart 53 = .ok (.iconst 0, 1) := by decide +kernel
theorem dX6_restart_54 : decode cX6_restart 54 = .ok (.putfield 83, 3) := by decide +kernel
theorem dX6_restart_57 : decode cX6_restart 57 = .ok (.aload_n 0, 1) := by decide +kernel
theorem dX6_restart_58 : decode cX6_restart 58 = .ok (.iconst 0, 1) := by decide +kernel
theorem dX6_restart_59 : decode cX6_restart 59 = .ok (.putfield 86, 3) := by decide +kernel
theorem dX6_restart_62 : decode cX6_restart 62 = .ok (.aload_n 0, 1) := by decide +kernel
theorem dX6_restart_63 : decode cX6_restart 63 = .ok (.iconst 0, 1) := by decide +kernel
theorem dX6_restart_64 : decode cX6_restart 64 = .ok (.putfield 89, 3) := by decide +kernel
theorem dX6_restart_67 : decode cX6_restart 67 = .ok (.aload_n 0, 1) := by decide +kernel
theorem dX6_restart_68 : decode cX6_restart 68 = .ok (.bipush 16, 2) := by decide +kernel
theorem dX6_restart_70 : decode cX6_restart 70 = .ok (.putfield 7, 3) := by decide +kernel
theorem dX6_restart_73 : decode cX6_restart 73 = .ok (.aload_n 0, 1) := by decide +kernel
theorem dX6_restart_74 : decode cX6_restart 74 = .ok (.lconst 0, 1) := by decide +kernel
theorem dX6_restart_75 : decode cX6_restart 75 = .ok (.putfield 92, 3) := by decide +kernel
theorem dX6_restart_78 : decode cX6_restart 78 = .ok (.aload_n 0, 1) := by decide +kernel
theorem dX6_restart_79 : decode cX6_restart 79 = .ok (.iconst 0, 1) := by decide +kernel
theorem dX6_restart_80 : decode cX6_restart 80 = .ok (.putfield 95, 3) := by decide +kernel
theorem dX6_restart_83 : decode cX6_restart 83 = .ok (.iconst 0, 1) := by decide +kernel
theorem dX6_restart_84 : decode cX6_restart 84 = .ok (.istore_n 2, 1) := by decide +kernel
theorem dX6_restart_85 : decode cX6_restart 85 = .ok (.iload_n 2, 1) := by decide +kernel
theorem dX6_restart_86 : decode cX6_restart 86 = .ok (.bipush 21, 2) := by decide +kernel
theorem dX6_restart_88 : decode cX6_restart 88 = .ok (.if_icmp .ge 16, 3) := by decide +kernel
theorem dX6_restart_91 : decode cX6_restart 91 = .ok (.aload_n 0, 1) := by decide +kernel
theorem dX6_restart_92 : decode cX6_restart 92 = .ok (.getfield 13, 3) := by decide +kernel
theorem dX6_restart_95 : decode cX6_restart 95 = .ok (.iload_n 2, 1) := by decide +kernel
theorem dX6_restart_96 : decode cX6_restart 96 = .ok (.iconst 0, 1) := by decide +kernel
theorem dX6_restart_97 : decode cX6_restart 97 = .ok (.iastore, 1) := by decide +kernel
theorem dX6_restart_98 : decode cX6_restart 98 = .ok (.iinc 2 1, 3) := by decide +kernel
theorem dX6_restart_101 : decode cX6_restart 101 = .ok (.goto (-16), 3) := by decide +kernel
theorem dX6_restart_104 : decode cX6_restart 104 = .ok (.return_, 1) := by decide +kernel
theorem dX6_goOn_0 : decode cX6_goOn 0 = .ok (.ldc2_w 98, 3) := by decide +kernel
theorem dX6_goOn_3 : decode cX6_goOn 3 = .ok (.iload_n 1, 1) := by decide +kernel
theorem dX6_goOn_4 : decode cX6_goOn 4 = .ok (.i2l, 1) := by decide +kernel
theorem dX6_goOn_5 : decode cX6_goOn 5 = .ok (.lmul, 1) := by decide +kernel
theorem dX6_goOn_6 : decode cX6_goOn 6 = .ok (.lstore_n 2, 1) := by decide +kernel
theorem dX6_goOn_7 : decode cX6_goOn 7 = .ok (.aload_n 0, 1) := by decide +kernel
theorem dX6_goOn_8 : decode cX6_goOn 8 = .ok (.getfield 77, 3) := by decide +kernel
theorem dX6_goOn_11 : decode cX6_goOn 11 = .ok (.lload_n 2, 1) := by decide +kernel
theorem dX6_goOn_12 : decode cX6_goOn 12 = .ok (.lcmp, 1) := by decide +kernel
theorem dX6_goOn_13 : decode cX6_goOn 13 = .ok (.ifCond .le 7, 3) := by decide +kernel
theorem dX6_goOn_16 : decode cX6_goOn 16 = .ok (.lload_n 2, 1) := by decide +kernel
theorem dX6_goOn_17 : decode cX6_goOn 17 = .ok (.goto 22, 3) := by decide +kernel
theorem dX6_goOn_20 : decode cX6_goOn 20 = .ok (.aload_n 0, 1) := by decide +kernel
theorem dX6_goOn_21 : decode cX6_goOn 21 = .ok (.getfield 77, 3) := by decide +kernel
theorem dX6_goOn_24 : decode cX6_goOn 24 = .ok (.lload_n 2, 1) := by decide +kernel
theorem dX6_goOn_25 : decode cX6_goOn 25 = .ok (.lneg, 1) := by decide +kernel
theorem dX6_goOn_26 : decode cX6_goOn 26 = .ok (.lcmp, 1) := by decide +kernel
theorem dX6_goOn_27 : decode cX6_goOn 27 = .ok (.ifCond .ge 8, 3) := by decide +kernel
theorem dX6_goOn_30 : decode cX6_goOn 30 = .ok (.lload_n 2, 1) := by decide +kernel
theorem dX6_goOn_31 : decode cX6_goOn 31 = .ok (.lneg, 1) := by decide +kernel
theorem dX6_goOn_32 : decode cX6_goOn 32 = .ok (.goto 7, 3) := by decide +kernel
theorem dX6_goOn_35 : decode cX6_goOn 35 = .ok (.aload_n 0, 1) := by decide +kernel
theorem dX6_goOn_36 : decode cX6_goOn 36 = .ok (.getfield 77, 3) := by decide +kernel
theorem dX6_goOn_39 : decode cX6_goOn 39 = .ok (.lstore 4, 2) := by decide +kernel
theorem dX6_goOn_41 : decode cX6_goOn 41 = .ok (.aload_n 0, 1) := by decide +kernel
theorem dX6_goOn_42 : decode cX6_goOn 42 = .ok (.dup, 1) := by decide +kernel
theorem dX6_goOn_43 : decode cX6_goOn 43 = .ok (.getfield 74, 3) := by decide +kernel
theorem dX6_goOn_46 : decode cX6_goOn 46 = .ok (.iload_n 1, 1) := by decide +kernel
theorem dX6_goOn_47 : decode cX6_goOn 47 = .ok (.i2l, 1) := by decide +kernel
theorem dX6_goOn_48 : decode cX6_goOn 48 = .ok (.ladd, 1) := by decide +kernel
theorem dX6_goOn_49 : decode cX6_goOn 49 = .ok (.putfield 74, 3) := by decide +kernel
theorem dX6_goOn_52 : decode cX6_goOn 52 = .ok (.aload_n 0, 1) := by decide +kernel
theorem dX6_goOn_53 : decode cX6_goOn 53 = .ok (.dup, 1) := by decide +kernel
theorem dX6_goOn_54 : decode cX6_goOn 54 = .ok (.getfield 52, 3) := by decide +kernel
theorem dX6_goOn_57 : decode cX6_goOn 57 = .ok (.iload_n 1, 1) := by decide +kernel
theorem dX6_goOn_58 : decode cX6_goOn 58 = .ok (.i2l, 1) := by decide +kernel
theorem dX6_goOn_59 : decode cX6_goOn 59 = .ok (.ldc2_w 56, 3) := by decide +kernel
theorem dX6_goOn_62 : decode cX6_goOn 62 = .ok (.aload_n 0, 1) := by decide +kernel
theorem dX6_goOn_63 : decode cX6_goOn 63 = .ok (.getfield 80, 3) := by decide +kernel
theorem dX6_goOn_66 : decode cX6_goOn 66 = .ok (.i2l, 1) := by decide +kernel
theorem dX6_goOn_67 : decode cX6_goOn 67 = .ok (.ladd, 1) := by decide +kernel
theorem dX6_goOn_68 : decode cX6_goOn 68 = .ok (.aload_n 0, 1) := by decide +kernel
theorem dX6_goOn_69 : decode cX6_goOn 69 = .ok (.getfield 83, 3) := by decide +kernel
theorem dX6_goOn_72 : decode cX6_goOn 72 = .ok (.i2l, 1) := by decide +kernel
theorem dX6_goOn_73 : decode cX6_goOn 73 = .ok (.ladd, 1) := by decide +kernel
theorem dX6_goOn_74 : decode cX6_goOn 74 = .ok (.lmul, 1) := by decide +kernel
theorem dX6_goOn_75 : decode cX6_goOn 75 = .ok (.lload 4, 2) := by decide +kernel
theorem dX6_goOn_77 : decode cX6_goOn 77 = .ok (.ladd, 1) := by decide +kernel
theorem dX6_goOn_78 : decode cX6_goOn 78 = .ok (.ladd, 1) := by decide +kernel
theorem dX6_goOn_79 : decode cX6_goOn 79 = .ok (.putfield 52, 3) := by decide +kernel
theorem dX6_goOn_82 : decode cX6_goOn 82 = .ok (.aload_n 0, 1) := by decide +kernel
theorem dX6_goOn_83 : decode cX6_goOn 83 = .ok (.dup, 1) := by decide +kernel
theorem dX6_goOn_84 : decode cX6_goOn 84 = .ok (.getfield 77, 3) := by decide +kernel
theorem dX6_goOn_87 : decode cX6_goOn 87 = .ok (.lload 4, 2) := by decide +kernel
theorem dX6_goOn_89 : decode cX6_goOn 89 = .ok (.lsub, 1) := by decide +kernel
theorem dX6_goOn_90 : decode cX6_goOn 90 = .ok (.putfield 77, 3) := by decide +kernel
theorem dX6_goOn_93 : decode cX6_goOn 93 = .ok (.return_, 1) := by decide +kernel
theorem dX6_pass_0 : decode cX6_pass 0 = .ok (.aload_n 0, 1) := by decide +kernel
theorem dX6_pass_1 : decode cX6_pass 1 = .ok (.iload_n 1, 1) := by decide +kernel
theorem dX6_pass_2 : decode cX6_pass 2 = .ok (.i2l, 1) := by decide +kernel
theorem dX6_pass_3 : decode cX6_pass 3 = .ok (.lconst 1, 1) := by decide +kernel
theorem dX6_pass_4 : decode cX6_pass 4 = .ok (.ldc2_w 64, 3) := by decide +kernel
theorem dX6_pass_7 : decode cX6_pass 7 = .ok (.invokestatic 66, 3) := by decide +kernel
theorem dX6_pass_10 : decode cX6_pass 10 = .ok (.ifCond .ne 7, 3) := by decide +kernel
theorem dX6_pass_13 : decode cX6_pass 13 = .ok (.iconst 1, 1) := by decide +kernel
theorem dX6_pass_14 : decode cX6_pass 14 = .ok (.goto 22, 3) := by decide +kernel
theorem dX6_pass_17 : decode cX6_pass 17 = .ok (.aload_n 0, 1) := by decide +kernel
theorem dX6_pass_18 : decode cX6_pass 18 = .ok (.getfield 74, 3) := by decide +kernel
theorem dX6_pass_21 : decode cX6_pass 21 = .ok (.iload_n 1, 1) := by decide +kernel
theorem dX6_pass_22 : decode cX6_pass 22 = .ok (.i2l, 1) := by decide +kernel
theorem dX6_pass_23 : decode cX6_pass 23 = .ok (.ladd, 1) := by decide +kernel
theorem dX6_pass_24 : decode cX6_pass 24 = .ok (.ldc2_w 100, 3) := by decide +kernel
theorem dX6_pass_27 : decode cX6_pass 27 = .ok (.lcmp, 1) := by decide +kernel
theorem dX6_pass_28 : decode cX6_pass 28 = .ok (.ifCond .le 7, 3) := by decide +kernel
theorem dX6_pass_31 : decode cX6_pass 31 = .ok (.iconst 2, 1) := by decide +kernel
theorem dX6_pass_32 : decode cX6_pass 32 = .ok (.goto 4, 3) := by decide +kernel
theorem dX6_pass_35 : decode cX6_pass 35 = .ok (.iconst 0, 1) := by decide +kernel
theorem dX6_pass_36 : decode cX6_pass 36 = .ok (.invokevirtual 70, 3) := by decide +kernel
theorem dX6_pass_39 : decode cX6_pass 39 = .ok (.ifCond .eq 5, 3) := by decide +kernel
theorem dX6_pass_42 : decode cX6_pass 42 = .ok (.lconst 0, 1) := by decide +kernel
theorem dX6_pass_43 : decode cX6_pass 43 = .ok (.lreturn, 1) := by decide +kernel
theorem dX6_pass_44 : decode cX6_pass 44 = .ok (.aload_n 0, 1) := by decide +kernel
theorem dX6_pass_45 : decode cX6_pass 45 = .ok (.iload_n 1, 1) := by decide +kernel
theorem dX6_pass_46 : decode cX6_pass 46 = .ok (.invokevirtual 102, 3) := by decide +kernel
theorem dX6_pass_49 : decode cX6_pass 49 = .ok (.aload_n 0, 1) := by decide +kernel
theorem dX6_pass_50 : decode cX6_pass 50 = .ok (.invokevirtual 106, 3) := by decide +kernel
theorem dX6_pass_53 : decode cX6_pass 53 = .ok (.lreturn, 1) := by decide +kernel
theorem dX6_setDrift_0 : decode cX6_setDrift 0 = .ok (.aload_n 0, 1) := by decide +kernel
theorem dX6_setDrift_1 : decode cX6_setDrift 1 = .ok (.iload_n 1, 1) := by decide +kernel
theorem dX6_setDrift_2 : decode cX6_setDrift 2 = .ok (.i2l, 1) := by decide +kernel
theorem dX6_setDrift_3 : decode cX6_setDrift 3 = .ok (.ldc2_w 110, 3) := by decide +kernel
theorem dX6_setDrift_6 : decode cX6_setDrift 6 = .ok (.ldc2_w 112, 3) := by decide +kernel
theorem dX6_setDrift_9 : decode cX6_setDrift 9 = .ok (.invokestatic 66, 3) := by decide +kernel
theorem dX6_setDrift_12 : decode cX6_setDrift 12 = .ok (.ifCond .eq 7, 3) := by decide +kernel
theorem dX6_setDrift_15 : decode cX6_setDrift 15 = .ok (.iconst 0, 1) := by decide +kernel
theorem dX6_setDrift_16 : decode cX6_setDrift 16 = .ok (.goto 4, 3) := by decide +kernel
theorem dX6_setDrift_19 : decode cX6_setDrift 19 = .ok (.iconst 1, 1) := by decide +kernel
theorem dX6_setDrift_20 : decode cX6_setDrift 20 = .ok (.invokevirtual 70, 3) := by decide +kernel
theorem dX6_setDrift_23 : decode cX6_setDrift 23 = .ok (.ifCond .eq 5, 3) := by decide +kernel
theorem dX6_setDrift_26 : decode cX6_setDrift 26 = .ok (.iconst 0, 1) := by decide +kernel
theorem dX6_setDrift_27 : decode cX6_setDrift 27 = .ok (.ireturn, 1) := by decide +kernel
theorem dX6_setDrift_28 : decode cX6_setDrift 28 = .ok (.aload_n 0, 1) := by decide +kernel
theorem dX6_setDrift_29 : decode cX6_setDrift 29 = .ok (.getfield 80, 3) := by decide +kernel
theorem dX6_setDrift_32 : decode cX6_setDrift 32 = .ok (.istore_n 2, 1) := by decide +kernel
theorem dX6_setDrift_33 : decode cX6_setDrift 33 = .ok (.aload_n 0, 1) := by decide +kernel
theorem dX6_setDrift_34 : decode cX6_setDrift 34 = .ok (.iload_n 1, 1) := by decide +kernel
theorem dX6_setDrift_35 : decode cX6_setDrift 35 = .ok (.putfield 80, 3) := by decide +kernel
theorem dX6_setDrift_38 : decode cX6_setDrift 38 = .ok (.iload_n 2, 1) := by decide +kernel
theorem dX6_setDrift_39 : decode cX6_setDrift 39 = .ok (.ireturn, 1) := by decide +kernel
theorem dX6_trueTime_0 : decode cX6_trueTime 0 = .ok (.aload_n 0, 1) := by decide +kernel
theorem dX6_trueTime_1 : decode cX6_trueTime 1 = .ok (.aload_n 0, 1) := by decide +kernel
theorem dX6_trueTime_2 : decode cX6_trueTime 2 = .ok (.getfield 74, 3) := by decide +kernel
theorem dX6_trueTime_5 : decode cX6_trueTime 5 = .ok (.invokevirtual 114, 3) := by decide +kernel
theorem dX6_trueTime_8 : decode cX6_trueTime 8 = .ok (.lreturn, 1) := by decide +kernel
theorem dX6_clock_0 : decode cX6_clock 0 = .ok (.aload_n 0, 1) := by decide +kernel
theorem dX6_clock_1 : decode cX6_clock 1 = .ok (.aload_n 0, 1) := by decide +kernel
theorem dX6_clock_2 : decode cX6_clock 2 = .ok (.invokevirtual 106, 3) := by decide +kernel
theorem dX6_clock_5 : decode cX6_clock 5 = .ok (.invokevirtual 114, 3) := by decide +kernel
theorem dX6_clock_8 : decode cX6_clock 8 = .ok (.lreturn, 1) := by decide +kernel
theorem dX6_error_0 : decode cX6_error 0 = .ok (.aload_n 0, 1) := by decide +kernel
theorem dX6_error_1 : decode cX6_error 1 = .ok (.aload_n 0, 1) := by decide +kernel
theorem dX6_error_2 : decode cX6_error 2 = .ok (.invokevirtual 106, 3) := by decide +kernel
theorem dX6_error_5 : decode cX6_error 5 = .ok (.aload_n 0, 1) := by decide +kernel
theorem dX6_error_6 : decode cX6_error 6 = .ok (.getfield 74, 3) := by decide +kernel
theorem dX6_error_9 : decode cX6_error 9 = .ok (.lsub, 1) := by decide +kernel
theorem dX6_error_10 : decode cX6_error 10 = .ok (.invokevirtual 114, 3) := by decide +kernel
theorem dX6_error_13 : decode cX6_error 13 = .ok (.lreturn, 1) := by decide +kernel
theorem dX6_pendingSlew_0 : decode cX6_pendingSlew 0 = .ok (.aload_n 0, 1) := by decide +kernel
theorem dX6_pendingSlew_1 : decode cX6_pendingSlew 1 = .ok (.aload_n 0, 1) := by decide +kernel
theorem dX6_pendingSlew_2 : decode cX6_pendingSlew 2 = .ok (.getfield 77, 3) := by decide +kernel
theorem dX6_pendingSlew_5 : decode cX6_pendingSlew 5 = .ok (.ldc2_w 56, 3) := by decide +kernel
theorem dX6_pendingSlew_8 : decode cX6_pendingSlew 8 = .ok (.ldiv, 1) := by decide +kernel
theorem dX6_pendingSlew_9 : decode cX6_pendingSlew 9 = .ok (.invokevirtual 114, 3) := by decide +kernel
theorem dX6_pendingSlew_12 : decode cX6_pendingSlew 12 = .ok (.lreturn, 1) := by decide +kernel
theorem dX6_correction_0 : decode cX6_correction 0 = .ok (.aload_n 0, 1) := by decide +kernel
theorem dX6_correction_1 : decode cX6_correction 1 = .ok (.aload_n 0, 1) := by decide +kernel
theorem dX6_correction_2 : decode cX6_correction 2 = .ok (.getfield 83, 3) := by decide +kernel
theorem dX6_correction_5 : decode cX6_correction 5 = .ok (.invokevirtual 118, 3) := by decide +kernel
theorem dX6_correction_8 : decode cX6_correction 8 = .ok (.ireturn, 1) := by decide +kernel
theorem dX6_smearFrom_0 : decode cX6_smearFrom 0 = .ok (.iload_n 0, 1) := by decide +kernel
theorem dX6_smearFrom_1 : decode cX6_smearFrom 1 = .ok (.iconst 1, 1) := by decide +kernel
theorem dX6_smearFrom_2 : decode cX6_smearFrom 2 = .ok (.iadd, 1) := by decide +kernel
theorem dX6_smearFrom_3 : decode cX6_smearFrom 3 = .ok (.i2l, 1) := by decide +kernel
theorem dX6_smearFrom_4 : decode cX6_smearFrom 4 = .ok (.ldc2_w 122, 3) := by decide +kernel
theorem dX6_smearFrom_7 : decode cX6_smearFrom 7 = .ok (.lmul, 1) := by decide +kernel
theorem dX6_smearFrom_8 : decode cX6_smearFrom 8 = .ok (.ldc2_w 124, 3) := by decide +kernel
theorem dX6_smearFrom_11 : decode cX6_smearFrom 11 = .ok (.lsub, 1) := by decide +kernel
theorem dX6_smearFrom_12 : decode cX6_smearFrom 12 = .ok (.lreturn, 1) := by decide +kernel
theorem dX6_announceLeap_0 : decode cX6_announceLeap 0 = .ok (.iload_n 1, 1) := by decide +kernel
theorem dX6_announceLeap_1 : decode cX6_announceLeap 1 = .ok (.i2l, 1) := by decide +kernel
theorem dX6_announceLeap_2 : decode cX6_announceLeap 2 = .ok (.lconst 0, 1) := by decide +kernel
theorem dX6_announceLeap_3 : decode cX6_announceLeap 3 = .ok (.ldc2_w 126, 3) := by decide +kernel
theorem dX6_announceLeap_6 : decode cX6_announceLeap 6 = .ok (.invokestatic 66, 3) := by decide +kernel
theorem dX6_announceLeap_9 : decode cX6_announceLeap 9 = .ok (.istore_n 3, 1) := by decide +kernel
theorem dX6_announceLeap_10 : decode cX6_announceLeap 10 = .ok (.aload_n 0, 1) := by decide +kernel
theorem dX6_announceLeap_11 : decode cX6_announceLeap 11 = .ok (.iload_n 3, 1) := by decide +kernel
theorem dX6_announceLeap_12 : decode cX6_announceLeap 12 = .ok (.ifCond .ne 7, 3) := by decide +kernel
theorem dX6_announceLeap_15 : decode cX6_announceLeap 15 = .ok (.iconst 1, 1) := by decide +kernel
theorem dX6_announceLeap_16 : decode cX6_announceLeap 16 = .ok (.goto 29, 3) := by decide +kernel
theorem dX6_announceLeap_19 : decode cX6_announceLeap 19 = .ok (.aload_n 0, 1) := by decide +kernel
theorem dX6_announceLeap_20 : decode cX6_announceLeap 20 = .ok (.getfield 13, 3) := by decide +kernel
theorem dX6_announceLeap_23 : decode cX6_announceLeap 23 = .ok (.iload_n 1, 1) := by decide +kernel
theorem dX6_announceLeap_24 : decode cX6_announceLeap 24 = .ok (.iaload, 1) := by decide +kernel
theorem dX6_announceLeap_25 : decode cX6_announceLeap 25 = .ok (.ifCond .ne 15, 3) := by decide +kernel
theorem dX6_announceLeap_28 : decode cX6_announceLeap 28 = .ok (.aload_n 0, 1) := by decide +kernel
theorem dX6_announceLeap_29 : decode cX6_announceLeap 29 = .ok (.invokevirtual 106, 3) := by decide +kernel
theorem dX6_announceLeap_32 : decode cX6_announceLeap 32 = .ok (.iload_n 1, 1) := by decide +kernel
theorem dX6_announceLeap_33 : decode cX6_announceLeap 33 = .ok (.invokestatic 128, 3) := by decide +kernel
theorem dX6_announceLeap_36 : decode cX6_announceLeap 36 = .ok (.lcmp, 1) := by decide +kernel
theorem dX6_announceLeap_37 : decode cX6_announceLeap 37 = .ok (.ifCond .lt 7, 3) := by decide +kernel
theorem dX6_announceLeap_40 : decode cX6_announceLeap 40 = .ok (.iconst 2, 1) := by decide +kernel
theorem dX6_announceLeap_41 : decode cX6_announceLeap 41 = .ok (.goto 4, 3) := by decide +kernel
theorem dX6_announceLeap_44 : decode cX6_announceLeap 44 = .ok (.iconst 0, 1) := by decide +kernel
theorem dX6_announceLeap_45 : decode cX6_announceLeap 45 = .ok (.invokevirtual 70, 3) := by decide +kernel
theorem dX6_announceLeap_48 : decode cX6_announceLeap 48 = .ok (.ifCond .eq 5, 3) := by decide +kernel
theorem dX6_announceLeap_51 : decode cX6_announceLeap 51 = .ok (.lconst 0, 1) := by decide +kernel
theorem dX6_announceLeap_52 : decode cX6_announceLeap 52 = .ok (.lreturn, 1) := by decide +kernel
theorem dX6_announceLeap_53 : decode cX6_announceLeap 53 = .ok (.aload_n 0, 1) := by decide +kernel
theorem dX6_announceLeap_54 : decode cX6_announceLeap 54 = .ok (.getfield 13, 3) := by decide +kernel
theorem dX6_announceLeap_57 : decode cX6_announceLeap 57 = .ok (.iload_n 1, 1) := by decide +kernel
theorem dX6_announceLeap_58 : decode cX6_announceLeap 58 = .ok (.iload_n 2, 1) := by decide +kernel
theorem dX6_announceLeap_59 : decode cX6_announceLeap 59 = .ok (.ifCond .eq 7, 3) := by decide +kernel
theorem dX6_announceLeap_62 : decode cX6_announceLeap 62 = .ok (.iconst (-1), 1) := by decide +kernel
theorem dX6_announceLeap_63 : decode cX6_announceLeap 63 = .ok (.goto 4, 3) := by decide +kernel
theorem dX6_announceLeap_66 : decode cX6_announceLeap 66 = .ok (.iconst 1, 1) := by decide +kernel
theorem dX6_announceLeap_67 : decode cX6_announceLeap 67 = .ok (.iastore, 1) := by decide +kernel
theorem dX6_announceLeap_68 : decode cX6_announceLeap 68 = .ok (.iload_n 1, 1) := by decide +kernel
theorem dX6_announceLeap_69 : decode cX6_announceLeap 69 = .ok (.invokestatic 128, 3) := by decide +kernel
theorem dX6_announceLeap_72 : decode cX6_announceLeap 72 = .ok (.lreturn, 1) := by decide +kernel
theorem dX6_civil_0 : decode cX6_civil 0 = .ok (.aload_n 0, 1) := by decide +kernel
theorem dX6_civil_1 : decode cX6_civil 1 = .ok (.invokevirtual 106, 3) := by decide +kernel
theorem dX6_civil_4 : decode cX6_civil 4 = .ok (.lstore_n 1, 1) := by decide +kernel
theorem dX6_civil_5 : decode cX6_civil 5 = .ok (.iconst 0, 1) := by decide +kernel
theorem dX6_civil_6 : decode cX6_civil 6 = .ok (.istore_n 3, 1) := by decide +kernel
theorem dX6_civil_7 : decode cX6_civil 7 = .ok (.iload_n 3, 1) := by decide +kernel
theorem dX6_civil_8 : decode cX6_civil 8 = .ok (.bipush 21, 2) := by decide +kernel
theorem dX6_civil_10 : decode cX6_civil 10 = .ok (.if_icmp .ge 67, 3) := by decide +kernel
theorem dX6_civil_13 : decode cX6_civil 13 = .ok (.aload_n 0, 1) := by decide +kernel
theorem dX6_civil_14 : decode cX6_civil 14 = .ok (.invokevirtual 106, 3) := by decide +kernel
theorem dX6_civil_17 : decode cX6_civil 17 = .ok (.iload_n 3, 1) := by decide +kernel
theorem dX6_civil_18 : decode cX6_civil 18 = .ok (.invokestatic 128, 3) := by decide +kernel
theorem dX6_civil_21 : decode cX6_civil 21 = .ok (.lsub, 1) := by decide +kernel
theorem dX6_civil_22 : decode cX6_civil 22 = .ok (.lstore 4, 2) := by decide +kernel
theorem dX6_civil_24 : decode cX6_civil 24 = .ok (.lload 4, 2) := by decide +kernel
theorem dX6_civil_26 : decode cX6_civil 26 = .ok (.lconst 0, 1) := by decide +kernel
theorem dX6_civil_27 : decode cX6_civil 27 = .ok (.lcmp, 1) := by decide +kernel
theorem dX6_civil_28 : decode cX6_civil 28 = .ok (.ifCond .ge 7, 3) := by decide +kernel
theorem dX6_civil_31 : decode cX6_civil 31 = .ok (.lconst 0, 1) := by decide +kernel
theorem dX6_civil_32 : decode cX6_civil 32 = .ok (.goto 24, 3) := by decide +kernel
theorem dX6_civil_35 : decode cX6_civil 35 = .ok (.lload 4, 2) := by decide +kernel
theorem dX6_civil_37 : decode cX6_civil 37 = .ok (.ldc2_w 124, 3) := by decide +kernel
theorem dX6_civil_40 : decode cX6_civil 40 = .ok (.lcmp, 1) := by decide +kernel
theorem dX6_civil_41 : decode cX6_civil 41 = .ok (.ifCond .lt 9, 3) := by decide +kernel
theorem dX6_civil_44 : decode cX6_civil 44 = .ok (.ldc2_w 56, 3) := by decide +kernel
theorem dX6_civil_47 : decode cX6_civil 47 = .ok (.goto 9, 3) := by decide +kernel
theorem dX6_civil_50 : decode cX6_civil 50 = .ok (.lload 4, 2) := by decide +kernel
theorem dX6_civil_52 : decode cX6_civil 52 = .ok (.ldc2_w 132, 3) := by decide +kernel
theorem dX6_civil_55 : decode cX6_civil 55 = .ok (.ldiv, 1) := by decide +kernel
theorem dX6_civil_56 : decode cX6_civil 56 = .ok (.lstore 6, 2) := by decide +kernel
theorem dX6_civil_58 : decode cX6_civil 58 = .ok (.lload_n 1, 1) := by decide +kernel
theorem dX6_civil_59 : decode cX6_civil 59 = .ok (.aload_n 0, 1) := by decide +kernel
theorem dX6_civil_60 : decode cX6_civil 60 = .ok (.getfield 13, 3) := by decide +kernel
theorem dX6_civil_63 : decode cX6_civil 63 = .ok (.iload_n 3, 1) := by decide +kernel
theorem dX6_civil_64 : decode cX6_civil 64 = .ok (.iaload, 1) := by decide +kernel
theorem dX6_civil_65 : decode cX6_civil 65 = .ok (.i2l, 1) := by decide +kernel
theorem dX6_civil_66 : decode cX6_civil 66 = .ok (.lload 6, 2) := by decide +kernel
theorem dX6_civil_68 : decode cX6_civil 68 = .ok (.lmul, 1) := by decide +kernel
theorem dX6_civil_69 : decode cX6_civil 69 = .ok (.ladd, 1) := by decide +kernel
theorem dX6_civil_70 : decode cX6_civil 70 = .ok (.lstore_n 1, 1) := by decide +kernel
theorem dX6_civil_71 : decode cX6_civil 71 = .ok (.iinc 3 1, 3) := by decide +kernel
theorem dX6_civil_74 : decode cX6_civil 74 = .ok (.goto (-67), 3) := by decide +kernel
theorem dX6_civil_77 : decode cX6_civil 77 = .ok (.aload_n 0, 1) := by decide +kernel
theorem dX6_civil_78 : decode cX6_civil 78 = .ok (.lload_n 1, 1) := by decide +kernel
theorem dX6_civil_79 : decode cX6_civil 79 = .ok (.invokevirtual 114, 3) := by decide +kernel
theorem dX6_civil_82 : decode cX6_civil 82 = .ok (.lreturn, 1) := by decide +kernel
theorem dX6_addServer_0 : decode cX6_addServer 0 = .ok (.iload_n 1, 1) := by decide +kernel
theorem dX6_addServer_1 : decode cX6_addServer 1 = .ok (.i2l, 1) := by decide +kernel
theorem dX6_addServer_2 : decode cX6_addServer 2 = .ok (.lconst 1, 1) := by decide +kernel
theorem dX6_addServer_3 : decode cX6_addServer 3 = .ok (.ldc2_w 134, 3) := by decide +kernel
theorem dX6_addServer_6 : decode cX6_addServer 6 = .ok (.invokestatic 66, 3) := by decide +kernel
theorem dX6_addServer_9 : decode cX6_addServer 9 = .ok (.ifCond .eq 46, 3) := by decide +kernel
theorem dX6_addServer_12 : decode cX6_addServer 12 = .ok (.iload_n 2, 1) := by decide +kernel
theorem dX6_addServer_13 : decode cX6_addServer 13 = .ok (.i2l, 1) := by decide +kernel
theorem dX6_addServer_14 : decode cX6_addServer 14 = .ok (.ldc2_w 136, 3) := by decide +kernel
theorem dX6_addServer_17 : decode cX6_addServer 17 = .ok (.ldc2_w 56, 3) := by decide +kernel
theorem dX6_addServer_20 : decode cX6_addServer 20 = .ok (.invokestatic 66, 3) := by decide +kernel
theorem dX6_addServer_23 : decode cX6_addServer 23 = .ok (.ifCond .eq 32, 3) := by decide +kernel
theorem dX6_addServer_26 : decode cX6_addServer 26 = .ok (.iload_n 3, 1) := by decide +kernel
theorem dX6_addServer_27 : decode cX6_addServer 27 = .ok (.i2l, 1) := by decide +kernel
theorem dX6_addServer_28 : decode cX6_addServer 28 = .ok (.lconst 0, 1) := by decide +kernel
theorem dX6_addServer_29 : decode cX6_addServer 29 = .ok (.ldc2_w 56, 3) := by decide +kernel
theorem dX6_addServer_32 : decode cX6_addServer 32 = .ok (.invokestatic 66, 3) := by decide +kernel
theorem dX6_addServer_35 : decode cX6_addServer 35 = .ok (.ifCond .eq 20, 3) := by decide +kernel
theorem dX6_addServer_38 : decode cX6_addServer 38 = .ok (.iload 4, 2) := by decide +kernel
theorem dX6_addServer_40 : decode cX6_addServer 40 = .ok (.i2l, 1) := by decide +kernel
theorem dX6_addServer_41 : decode cX6_addServer 41 = .ok (.lconst 0, 1) := by decide +kernel
theorem dX6_addServer_42 : decode cX6_addServer 42 = .ok (.ldc2_w 56, 3) := by decide +kernel
theorem dX6_addServer_45 : decode cX6_addServer 45 = .ok (.invokestatic 66, 3) := by decide +kernel
theorem dX6_addServer_48 : decode cX6_addServer 48 = .ok (.ifCond .eq 7, 3) := by decide +kernel
theorem dX6_addServer_51 : decode cX6_addServer 51 = .ok (.iconst 1, 1) := by decide +kernel
theorem dX6_addServer_52 : decode cX6_addServer 52 = .ok (.goto 4, 3) := by decide +kernel
theorem dX6_addServer_55 : decode cX6_addServer 55 = .ok (.iconst 0, 1) := by decide +kernel
theorem dX6_addServer_56 : decode cX6_addServer 56 = .ok (.istore 5, 2) := by decide +kernel
theorem dX6_addServer_58 : decode cX6_addServer 58 = .ok (.aload_n 0, 1) := by decide +kernel
theorem dX6_addServer_59 : decode cX6_addServer 59 = .ok (.iload 5, 2) := by decide +kernel
theorem dX6_addServer_61 : decode cX6_addServer 61 = .ok (.ifCond .ne 7, 3) := by decide +kernel
theorem dX6_addServer_64 : decode cX6_addServer 64 = .ok (.iconst 1, 1) := by decide +kernel
theorem dX6_addServer_65 : decode cX6_addServer 65 = .ok (.goto 17, 3) := by decide +kernel
theorem dX6_addServer_68 : decode cX6_addServer 68 = .ok (.aload_n 0, 1) := by decide +kernel
theorem dX6_addServer_69 : decode cX6_addServer 69 = .ok (.getfield 95, 3) := by decide +kernel
theorem dX6_addServer_72 : decode cX6_addServer 72 = .ok (.bipush 8, 2) := by decide +kernel
theorem dX6_addServer_74 : decode cX6_addServer 74 = .ok (.if_icmp .ne 7, 3) := by decide +kernel
theorem dX6_addServer_77 : decode cX6_addServer 77 = .ok (.iconst 2, 1) := by decide +kernel
theorem dX6_addServer_78 : decode cX6_addServer 78 = .ok (.goto 4, 3) := by decide +kernel
theorem dX6_addServer_81 : decode cX6_addServer 81 = .ok (.iconst 0, 1) := by decide +kernel
theorem dX6_addServer_82 : decode cX6_addServer 82 = .ok (.invokevirtual 70, 3) := by decide +kernel
theorem dX6_addServer_85 : decode cX6_addServer 85 = .ok (.ifCond .eq 5, 3) := by decide +kernel
theorem dX6_addServer_88 : decode cX6_addServer 88 = .ok (.iconst 0, 1) := by decide +kernel
theorem dX6_addServer_89 : decode cX6_addServer 89 = .ok (.ireturn, 1) := by decide +kernel
theorem dX6_addServer_90 : decode cX6_addServer 90 = .ok (.aload_n 0, 1) := by decide +kernel
theorem dX6_addServer_91 : decode cX6_addServer 91 = .ok (.getfield 17, 3) := by decide +kernel
theorem dX6_addServer_94 : decode cX6_addServer 94 = .ok (.aload_n 0, 1) := by decide +kernel
theorem dX6_addServer_95 : decode cX6_addServer 95 = .ok (.getfield 95, 3) := by decide +kernel
theorem dX6_addServer_98 : decode cX6_addServer 98 = .ok (.iload_n 1, 1) := by decide +kernel
theorem dX6_addServer_99 : decode cX6_addServer 99 = .ok (.iastore, 1) := by decide +kernel
theorem dX6_addServer_100 : decode cX6_addServer 100 = .ok (.aload_n 0, 1) := by decide +kernel
theorem dX6_addServer_101 : decode cX6_addServer 101 = .ok (.getfield 20, 3) := by decide +kernel
theorem dX6_addServer_104 : decode cX6_addServer 104 = .ok (.aload_n 0, 1) := by decide +kernel
theorem dX6_addServer_105 : decode cX6_addServer 105 = .ok (.getfield 95, 3) := by decide +kernel
theorem dX6_addServer_108 : decode cX6_addServer 108 = .ok (.iload_n 2, 1) := by decide +kernel
theorem dX6_addServer_109 : decode cX6_addServer 109 = .ok (.iastore, 1) := by decide +kernel
theorem dX6_addServer_110 : decode cX6_addServer 110 = .ok (.aload_n 0, 1) := by decide +kernel
theorem dX6_addServer_111 : decode cX6_addServer 111 = .ok (.getfield 23, 3) := by decide +kernel
theorem dX6_addServer_114 : decode cX6_addServer 114 = .ok (.aload_n 0, 1) := by decide +kernel
theorem dX6_addServer_115 : decode cX6_addServer 115 = .ok (.getfield 95, 3) := by decide +kernel
theorem dX6_addServer_118 : decode cX6_addServer 118 = .ok (.iload_n 3, 1) := by decide +kernel
theorem dX6_addServer_119 : decode cX6_addServer 119 = .ok (.iastore, 1) := by decide +kernel
theorem dX6_addServer_120 : decode cX6_addServer 120 = .ok (.aload_n 0, 1) := by decide +kernel
theorem dX6_addServer_121 : decode cX6_addServer 121 = .ok (.getfield 26, 3) := by decide +kernel
theorem dX6_addServer_124 : decode cX6_addServer 124 = .ok (.aload_n 0, 1) := by decide +kernel
theorem dX6_addServer_125 : decode cX6_addServer 125 = .ok (.getfield 95, 3) := by decide +kernel
theorem dX6_addServer_128 : decode cX6_addServer 128 = .ok (.iload 4, 2) := by decide +kernel
theorem dX6_addServer_130 : decode cX6_addServer 130 = .ok (.iastore, 1) := by decide +kernel
theorem dX6_addServer_131 : decode cX6_addServer 131 = .ok (.aload_n 0, 1) := by decide +kernel
theorem dX6_addServer_132 : decode cX6_addServer 132 = .ok (.getfield 29, 3) := by decide +kernel
theorem dX6_addServer_135 : decode cX6_addServer 135 = .ok (.aload_n 0, 1) := by decide +kernel
theorem dX6_addServer_136 : decode cX6_addServer 136 = .ok (.getfield 95, 3) := by decide +kernel
theorem dX6_addServer_139 : decode cX6_addServer 139 = .ok (.iconst 0, 1) := by decide +kernel
theorem dX6_addServer_140 : decode cX6_addServer 140 = .ok (.iastore, 1) := by decide +kernel
theorem dX6_addServer_141 : decode cX6_addServer 141 = .ok (.aload_n 0, 1) := by decide +kernel
theorem dX6_addServer_142 : decode cX6_addServer 142 = .ok (.dup, 1) := by decide +kernel
theorem dX6_addServer_143 : decode cX6_addServer 143 = .ok (.getfield 95, 3) := by decide +kernel
theorem dX6_addServer_146 : decode cX6_addServer 146 = .ok (.iconst 1, 1) := by decide +kernel
theorem dX6_addServer_147 : decode cX6_addServer 147 = .ok (.iadd, 1) := by decide +kernel
theorem dX6_addServer_148 : decode cX6_addServer 148 = .ok (.putfield 95, 3) := by decide +kernel
theorem dX6_addServer_151 : decode cX6_addServer 151 = .ok (.aload_n 0, 1) := by decide +kernel
theorem dX6_addServer_152 : decode cX6_addServer 152 = .ok (.getfield 95, 3) := by decide +kernel
theorem dX6_addServer_155 : decode cX6_addServer 155 = .ok (.iconst 1, 1) := by decide +kernel
theorem dX6_addServer_156 : decode cX6_addServer 156 = .ok (.isub, 1) := by decide +kernel
theorem dX6_addServer_157 : decode cX6_addServer 157 = .ok (.ireturn, 1) := by decide +kernel
theorem dX6_isServer_0 : decode cX6_isServer 0 = .ok (.iload_n 1, 1) := by decide +kernel
theorem dX6_isServer_1 : decode cX6_isServer 1 = .ok (.i2l, 1) := by decide +kernel
theorem dX6_isServer_2 : decode cX6_isServer 2 = .ok (.lconst 0, 1) := by decide +kernel
theorem dX6_isServer_3 : decode cX6_isServer 3 = .ok (.aload_n 0, 1) := by decide +kernel
theorem dX6_isServer_4 : decode cX6_isServer 4 = .ok (.getfield 95, 3) := by decide +kernel
theorem dX6_isServer_7 : decode cX6_isServer 7 = .ok (.i2l, 1) := by decide +kernel
theorem dX6_isServer_8 : decode cX6_isServer 8 = .ok (.lconst 1, 1) := by decide +kernel
theorem dX6_isServer_9 : decode cX6_isServer 9 = .ok (.lsub, 1) := by decide +kernel
theorem dX6_isServer_10 : decode cX6_isServer 10 = .ok (.invokestatic 66, 3) := by decide +kernel
theorem dX6_isServer_13 : decode cX6_isServer 13 = .ok (.ireturn, 1) := by decide +kernel
theorem dX6_setError_0 : decode cX6_setError 0 = .ok (.aload_n 0, 1) := by decide +kernel
theorem dX6_setError_1 : decode cX6_setError 1 = .ok (.aload_n 0, 1) := by decide +kernel
theorem dX6_setError_2 : decode cX6_setError 2 = .ok (.iload_n 1, 1) := by decide +kernel
theorem dX6_setError_3 : decode cX6_setError 3 = .ok (.invokevirtual 138, 3) := by decide +kernel
theorem dX6_setError_6 : decode cX6_setError 6 = .ok (.ifCond .ne 7, 3) := by decide +kernel
theorem dX6_setError_9 : decode cX6_setError 9 = .ok (.iconst 1, 1) := by decide +kernel
theorem dX6_setError_10 : decode cX6_setError 10 = .ok (.goto 22, 3) := by decide +kernel
theorem dX6_setError_13 : decode cX6_setError 13 = .ok (.iload_n 2, 1) := by decide +kernel
theorem dX6_setError_14 : decode cX6_setError 14 = .ok (.i2l, 1) := by decide +kernel
theorem dX6_setError_15 : decode cX6_setError 15 = .ok (.ldc2_w 136, 3) := by decide +kernel
theorem dX6_setError_18 : decode cX6_setError 18 = .ok (.ldc2_w 56, 3) := by decide +kernel
theorem dX6_setError_21 : decode cX6_setError 21 = .ok (.invokestatic 66, 3) := by decide +kernel
theorem dX6_setError_24 : decode cX6_setError 24 = .ok (.ifCond .eq 7, 3) := by decide +kernel
theorem dX6_setError_27 : decode cX6_setError 27 = .ok (.iconst 0, 1) := by decide +kernel
theorem dX6_setError_28 : decode cX6_setError 28 = .ok (.goto 4, 3) := by decide +kernel
theorem dX6_setError_31 : decode cX6_setError 31 = .ok (.iconst 2, 1) := by decide +kernel
theorem dX6_setError_32 : decode cX6_setError 32 = .ok (.invokevirtual 70, 3) := by decide +kernel
theorem dX6_setError_35 : decode cX6_setError 35 = .ok (.ifCond .eq 5, 3) := by decide +kernel
theorem dX6_setError_38 : decode cX6_setError 38 = .ok (.iconst 0, 1) := by decide +kernel
theorem dX6_setError_39 : decode cX6_setError 39 = .ok (.ireturn, 1) := by decide +kernel
theorem dX6_setError_40 : decode cX6_setError 40 = .ok (.aload_n 0, 1) := by decide +kernel
theorem dX6_setError_41 : decode cX6_setError 41 = .ok (.getfield 20, 3) := by decide +kernel
theorem dX6_setError_44 : decode cX6_setError 44 = .ok (.iload_n 1, 1) := by decide +kernel
theorem dX6_setError_45 : decode cX6_setError 45 = .ok (.iaload, 1) := by decide +kernel
theorem dX6_setError_46 : decode cX6_setError 46 = .ok (.istore_n 3, 1) := by decide +kernel
theorem dX6_setError_47 : decode cX6_setError 47 = .ok (.aload_n 0, 1) := by decide +kernel
theorem dX6_setError_48 : decode cX6_setError 48 = .ok (.getfield 20, 3) := by decide +kernel
theorem dX6_setError_51 : decode cX6_setError 51 = .ok (.iload_n 1, 1) := by decide +kernel
theorem dX6_setError_52 : decode cX6_setError 52 = .ok (.iload_n 2, 1) := by decide +kernel
theorem dX6_setError_53 : decode cX6_setError 53 = .ok (.iastore, 1) := by decide +kernel
theorem dX6_setError_54 : decode cX6_setError 54 = .ok (.iload_n 3, 1) := by decide +kernel
theorem dX6_setError_55 : decode cX6_setError 55 = .ok (.ireturn, 1) := by decide +kernel
theorem dX6_keep_0 : decode cX6_keep 0 = .ok (.bipush 8, 2) := by decide +kernel
theorem dX6_keep_2 : decode cX6_keep 2 = .ok (.iload_n 1, 1) := by decide +kernel
theorem dX6_keep_3 : decode cX6_keep 3 = .ok (.imul, 1) := by decide +kernel
theorem dX6_keep_4 : decode cX6_keep 4 = .ok (.istore 8, 2) := by decide +kernel
theorem dX6_keep_6 : decode cX6_keep 6 = .ok (.aload_n 0, 1) := by decide +kernel
theorem dX6_keep_7 : decode cX6_keep 7 = .ok (.getfield 29, 3) := by decide +kernel
theorem dX6_keep_10 : decode cX6_keep 10 = .ok (.iload_n 1, 1) := by decide +kernel
theorem dX6_keep_11 : decode cX6_keep 11 = .ok (.iaload, 1) := by decide +kernel
theorem dX6_keep_12 : decode cX6_keep 12 = .ok (.bipush 8, 2) := by decide +kernel
theorem dX6_keep_14 : decode cX6_keep 14 = .ok (.if_icmp .ne 83, 3) := by decide +kernel
theorem dX6_keep_17 : decode cX6_keep 17 = .ok (.iload 8, 2) := by decide +kernel
theorem dX6_keep_19 : decode cX6_keep 19 = .ok (.istore 9, 2) := by decide +kernel
theorem dX6_keep_21 : decode cX6_keep 21 = .ok (.iload 9, 2) := by decide +kernel
theorem dX6_keep_23 : decode cX6_keep 23 = .ok (.iload 8, 2) := by decide +kernel
theorem dX6_keep_25 : decode cX6_keep 25 = .ok (.bipush 8, 2) := by decide +kernel
theorem dX6_keep_27 : decode cX6_keep 27 = .ok (.iadd, 1) := by decide +kernel
theorem dX6_keep_28 : decode cX6_keep 28 = .ok (.iconst 1, 1) := by decide +kernel
theorem dX6_keep_29 : decode cX6_keep 29 = .ok (.isub, 1) := by decide +kernel
theorem dX6_keep_30 : decode cX6_keep 30 = .ok (.if_icmp .ge 57, 3) := by decide +kernel
theorem dX6_keep_33 : decode cX6_keep 33 = .ok (.aload_n 0, 1) := by decide +kernel
theorem dX6_keep_34 : decode cX6_keep 34 = .ok (.getfield 32, 3) := by decide +kernel
theorem dX6_keep_37 : decode cX6_keep 37 = .ok (.iload 9, 2) := by decide +kernel
theorem dX6_keep_39 : decode cX6_keep 39 = .ok (.aload_n 0, 1) := by decide +kernel
theorem dX6_keep_40 : decode cX6_keep 40 = .ok (.getfield 32, 3) := by decide +kernel
theorem dX6_keep_43 : decode cX6_keep 43 = .ok (.iload 9, 2) := by decide +kernel
theorem dX6_keep_45 : decode cX6_keep 45 = .ok (.iconst 1, 1) := by decide +kernel
theorem dX6_keep_46 : decode cX6_keep 46 = .ok (.iadd, 1) := by decide +kernel
theorem dX6_keep_47 : decode cX6_keep 47 = .ok (.laload, 1) := by decide +kernel
theorem dX6_keep_48 : decode cX6_keep 48 = .ok (.lastore, 1) := by decide +kernel
theorem dX6_keep_49 : decode cX6_keep 49 = .ok (.aload_n 0, 1) := by decide +kernel
theorem dX6_keep_50 : decode cX6_keep 50 = .ok (.getfield 36, 3) := by decide +kernel
theorem dX6_keep_53 : decode cX6_keep 53 = .ok (.iload 9, 2) := by decide +kernel
theorem dX6_keep_55 : decode cX6_keep 55 = .ok (.aload_n 0, 1) := by decide +kernel
theorem dX6_keep_56 : decode cX6_keep 56 = .ok (.getfield 36, 3) := by decide +kernel
theorem dX6_keep_59 : decode cX6_keep 59 = .ok (.iload 9, 2) := by decide +kernel
theorem dX6_keep_61 : decode cX6_keep 61 = .ok (.iconst 1, 1) := by decide +kernel
theorem dX6_keep_62 : decode cX6_keep 62 = .ok (.iadd, 1) := by decide +kernel
theorem dX6_keep_63 : decode cX6_keep 63 = .ok (.laload, 1) := by decide +kernel
theorem dX6_keep_64 : decode cX6_keep 64 = .ok (.lastore, 1) := by decide +kernel
theorem dX6_keep_65 : decode cX6_keep 65 = .ok (.aload_n 0, 1) := by decide +kernel
theorem dX6_keep_66 : decode cX6_keep 66 = .ok (.getfield 39, 3) := by decide +kernel
theorem dX6_keep_69 : decode cX6_keep 69 = .ok (.iload 9, 2) := by decide +kernel
theorem dX6_keep_71 : decode cX6_keep 71 = .ok (.aload_n 0, 1) := by decide +kernel
theorem dX6_keep_72 : decode cX6_keep 72 = .ok (.getfield 39, 3) := by decide +kernel
theorem dX6_keep_75 : decode cX6_keep 75 = .ok (.iload 9, 2) := by decide +kernel
theorem dX6_keep_77 : decode cX6_keep 77 = .ok (.iconst 1, 1) := by decide +kernel
theorem dX6_keep_78 : decode cX6_keep 78 = .ok (.iadd, 1) := by decide +kernel
theorem dX6_keep_79 : decode cX6_keep 79 = .ok (.laload, 1) := by decide +kernel
theorem dX6_keep_80 : decode cX6_keep 80 = .ok (.lastore, 1) := by decide +kernel
theorem dX6_keep_81 : decode cX6_keep 81 = .ok (.iinc 9 1, 3) := by decide +kernel
theorem dX6_keep_84 : decode cX6_keep 84 = .ok (.goto (-63), 3) := by decide +kernel
theorem dX6_keep_87 : decode cX6_keep 87 = .ok (.aload_n 0, 1) := by decide +kernel
theorem dX6_keep_88 : decode cX6_keep 88 = .ok (.getfield 29, 3) := by decide +kernel
theorem dX6_keep_91 : decode cX6_keep 91 = .ok (.iload_n 1, 1) := by decide +kernel
theorem dX6_keep_92 : decode cX6_keep 92 = .ok (.dup2, 1) := by decide +kernel
theorem dX6_keep_93 : decode cX6_keep 93 = .ok (.iaload, 1) := by decide +kernel
theorem dX6_keep_94 : decode cX6_keep 94 = .ok (.iconst 1, 1) := by decide +kernel
theorem dX6_keep_95 : decode cX6_keep 95 = .ok (.isub, 1) := by decide +kernel
theorem dX6_keep_96 : decode cX6_keep 96 = .ok (.iastore, 1) := by decide +kernel
theorem dX6_keep_97 : decode cX6_keep 97 = .ok (.iload 8, 2) := by decide +kernel
theorem dX6_keep_99 : decode cX6_keep 99 = .ok (.aload_n 0, 1) := by decide +kernel
theorem dX6_keep_100 : decode cX6_keep 100 = .ok (.getfield 29, 3) := by decide +kernel
theorem dX6_keep_103 : decode cX6_keep 103 = .ok (.iload_n 1, 1) := by decide +kernel
theorem dX6_keep_104 : decode cX6_keep 104 = .ok (.iaload, 1) := by decide +kernel
theorem dX6_keep_105 : decode cX6_keep 105 = .ok (.iadd, 1) := by decide +kernel
theorem dX6_keep_106 : decode cX6_keep 106 = .ok (.istore 9, 2) := by decide +kernel
theorem dX6_keep_108 : decode cX6_keep 108 = .ok (.aload_n 0, 1) := by decide +kernel
theorem dX6_keep_109 : decode cX6_keep 109 = .ok (.getfield 32, 3) := by decide +kernel
theorem dX6_keep_112 : decode cX6_keep 112 = .ok (.iload 9, 2) := by decide +kernel
theorem dX6_keep_114 : decode cX6_keep 114 = .ok (.lload_n 2, 1) := by decide +kernel
theorem dX6_keep_115 : decode cX6_keep 115 = .ok (.lastore, 1) := by decide +kernel
theorem dX6_keep_116 : decode cX6_keep 116 = .ok (.aload_n 0, 1) := by decide +kernel
theorem dX6_keep_117 : decode cX6_keep 117 = .ok (.getfield 36, 3) := by decide +kernel
theorem dX6_keep_120 : decode cX6_keep 120 = .ok (.iload 9, 2) := by decide +kernel
theorem dX6_keep_122 : decode cX6_keep 122 = .ok (.lload 4, 2) := by decide +kernel
theorem dX6_keep_124 : decode cX6_keep 124 = .ok (.lastore, 1) := by decide +kernel
theorem dX6_keep_125 : decode cX6_keep 125 = .ok (.aload_n 0, 1) := by decide +kernel
theorem dX6_keep_126 : decode cX6_keep 126 = .ok (.getfield 39, 3) := by decide +kernel
theorem dX6_keep_129 : decode cX6_keep 129 = .ok (.iload 9, 2) := by decide +kernel
theorem dX6_keep_131 : decode cX6_keep 131 = .ok (.lload 6, 2) := by decide +kernel
theorem dX6_keep_133 : decode cX6_keep 133 = .ok (.lastore, 1) := by decide +kernel
theorem dX6_keep_134 : decode cX6_keep 134 = .ok (.aload_n 0, 1) := by decide +kernel
theorem dX6_keep_135 : decode cX6_keep 135 = .ok (.getfield 29, 3) := by decide +kernel
theorem dX6_keep_138 : decode cX6_keep 138 = .ok (.iload_n 1, 1) := by decide +kernel
theorem dX6_keep_139 : decode cX6_keep 139 = .ok (.dup2, 1) := by decide +kernel
theorem dX6_keep_140 : decode cX6_keep 140 = .ok (.iaload, 1) := by decide +kernel
theorem dX6_keep_141 : decode cX6_keep 141 = .ok (.iconst 1, 1) := by decide +kernel
theorem dX6_keep_142 : decode cX6_keep 142 = .ok (.iadd, 1) := by decide +kernel
theorem dX6_keep_143 : decode cX6_keep 143 = .ok (.iastore, 1) := by decide +kernel
theorem dX6_keep_144 : decode cX6_keep 144 = .ok (.return_, 1) := by decide +kernel
theorem dX6_exchange_0 : decode cX6_exchange 0 = .ok (.iload_n 2, 1) := by decide +kernel
theorem dX6_exchange_1 : decode cX6_exchange 1 = .ok (.i2l, 1) := by decide +kernel
theorem dX6_exchange_2 : decode cX6_exchange 2 = .ok (.lconst 0, 1) := by decide +kernel
theorem dX6_exchange_3 : decode cX6_exchange 3 = .ok (.ldc2_w 141, 3) := by decide +kernel
theorem dX6_exchange_6 : decode cX6_exchange 6 = .ok (.invokestatic 66, 3) := by decide +kernel
theorem dX6_exchange_9 : decode cX6_exchange 9 = .ok (.ifCond .eq 32, 3) := by decide +kernel
theorem dX6_exchange_12 : decode cX6_exchange 12 = .ok (.iload_n 3, 1) := by decide +kernel
theorem dX6_exchange_13 : decode cX6_exchange 13 = .ok (.i2l, 1) := by decide +kernel
theorem dX6_exchange_14 : decode cX6_exchange 14 = .ok (.lconst 0, 1) := by decide +kernel
theorem dX6_exchange_15 : decode cX6_exchange 15 = .ok (.ldc2_w 143, 3) := by decide +kernel
theorem dX6_exchange_18 : decode cX6_exchange 18 = .ok (.invokestatic 66, 3) := by decide +kernel
theorem dX6_exchange_21 : decode cX6_exchange 21 = .ok (.ifCond .eq 20, 3) := by decide +kernel
theorem dX6_exchange_24 : decode cX6_exchange 24 = .ok (.iload 4, 2) := by decide +kernel
theorem dX6_exchange_26 : decode cX6_exchange 26 = .ok (.i2l, 1) := by decide +kernel
theorem dX6_exchange_27 : decode cX6_exchange 27 = .ok (.lconst 0, 1) := by decide +kernel
theorem dX6_exchange_28 : decode cX6_exchange 28 = .ok (.ldc2_w 141, 3) := by decide +kernel
theorem dX6_exchange_31 : decode cX6_exchange 31 = .ok (.invokestatic 66, 3) := by decide +kernel
theorem dX6_exchange_34 : decode cX6_exchange 34 = .ok (.ifCond .eq 7, 3) := by decide +kernel
theorem dX6_exchange_37 : decode cX6_exchange 37 = .ok (.iconst 1, 1) := by decide +kernel
theorem dX6_exchange_38 : decode cX6_exchange 38 = .ok (.goto 4, 3) := by decide +kernel
theorem dX6_exchange_41 : decode cX6_exchange 41 = .ok (.iconst 0, 1) := by decide +kernel
theorem dX6_exchange_42 : decode cX6_exchange 42 = .ok (.istore 5, 2) := by decide +kernel
theorem dX6_exchange_44 : decode cX6_exchange 44 = .ok (.aload_n 0, 1) := by decide +kernel
theorem dX6_exchange_45 : decode cX6_exchange 45 = .ok (.aload_n 0, 1) := by decide +kernel
theorem dX6_exchange_46 : decode cX6_exchange 46 = .ok (.iload_n 1, 1) := by decide +kernel
theorem dX6_exchange_47 : decode cX6_exchange 47 = .ok (.invokevirtual 138, 3) := by decide +kernel
theorem dX6_exchange_50 : decode cX6_exchange 50 = .ok (.ifCond .ne 7, 3) := by decide +kernel
theorem dX6_exchange_53 : decode cX6_exchange 53 = .ok (.iconst 1, 1) := by decide +kernel
theorem dX6_exchange_54 : decode cX6_exchange 54 = .ok (.goto 38, 3) := by decide +kernel
theorem dX6_exchange_57 : decode cX6_exchange 57 = .ok (.iload 5, 2) := by decide +kernel
theorem dX6_exchange_59 : decode cX6_exchange 59 = .ok (.ifCond .ne 7, 3) := by decide +kernel
theorem dX6_exchange_62 : decode cX6_exchange 62 = .ok (.iconst 2, 1) := by decide +kernel
theorem dX6_exchange_63 : decode cX6_exchange 63 = .ok (.goto 29, 3) := by decide +kernel
theorem dX6_exchange_66 : decode cX6_exchange 66 = .ok (.aload_n 0, 1) := by decide +kernel
theorem dX6_exchange_67 : decode cX6_exchange 67 = .ok (.getfield 74, 3) := by decide +kernel
theorem dX6_exchange_70 : decode cX6_exchange 70 = .ok (.iload_n 2, 1) := by decide +kernel
theorem dX6_exchange_71 : decode cX6_exchange 71 = .ok (.i2l, 1) := by decide +kernel
theorem dX6_exchange_72 : decode cX6_exchange 72 = .ok (.ladd, 1) := by decide +kernel
theorem dX6_exchange_73 : decode cX6_exchange 73 = .ok (.iload_n 3, 1) := by decide +kernel
theorem dX6_exchange_74 : decode cX6_exchange 74 = .ok (.i2l, 1) := by decide +kernel
theorem dX6_exchange_75 : decode cX6_exchange 75 = .ok (.ladd, 1) := by decide +kernel
theorem dX6_exchange_76 : decode cX6_exchange 76 = .ok (.iload 4, 2) := by decide +kernel
theorem dX6_exchange_78 : decode cX6_exchange 78 = .ok (.i2l, 1) := by decide +kernel
theorem dX6_exchange_79 : decode cX6_exchange 79 = .ok (.ladd, 1) := by decide +kernel
theorem dX6_exchange_80 : decode cX6_exchange 80 = .ok (.ldc2_w 100, 3) := by decide +kernel
theorem dX6_exchange_83 : decode cX6_exchange 83 = .ok (.lcmp, 1) := by decide +kernel
theorem dX6_exchange_84 : decode cX6_exchange 84 = .ok (.ifCond .le 7, 3) := by decide +kernel
theorem dX6_exchange_87 : decode cX6_exchange 87 = .ok (.iconst 3, 1) := by decide +kernel
theorem dX6_exchange_88 : decode cX6_exchange 88 = .ok (.goto 4, 3) := by decide +kernel
theorem dX6_exchange_91 : decode cX6_exchange 91 = .ok (.iconst 0, 1) := by decide +kernel
theorem dX6_exchange_92 : decode cX6_exchange 92 = .ok (.invokevirtual 70, 3) := by decide +kernel
theorem dX6_exchange_95 : decode cX6_exchange 95 = .ok (.ifCond .eq 5, 3) := by decide +kernel
theorem dX6_exchange_98 : decode cX6_exchange 98 = .ok (.lconst 0, 1) := by decide +kernel
theorem dX6_exchange_99 : decode cX6_exchange 99 = .ok (.lreturn, 1) := by decide +kernel
theorem dX6_exchange_100 : decode cX6_exchange 100 = .ok (.aload_n 0, 1) := by decide +kernel
theorem dX6_exchange_101 : decode cX6_exchange 101 = .ok (.invokevirtual 106, 3) := by decide +kernel
theorem dX6_exchange_104 : decode cX6_exchange 104 = .ok (.lstore 6, 2) := by decide +kernel
theorem dX6_exchange_106 : decode cX6_exchange 106 = .ok (.aload_n 0, 1) := by decide +kernel
theorem dX6_exchange_107 : decode cX6_exchange 107 = .ok (.iload_n 2, 1) := by decide +kernel
theorem dX6_exchange_108 : decode cX6_exchange 108 = .ok (.invokevirtual 102, 3) := by decide +kernel
theorem dX6_exchange_111 : decode cX6_exchange 111 = .ok (.aload_n 0, 1) := by decide +kernel
theorem dX6_exchange_112 : decode cX6_exchange 112 = .ok (.getfield 74, 3) := by decide +kernel
theorem dX6_exchange_115 : decode cX6_exchange 115 = .ok (.aload_n 0, 1) := by decide +kernel
theorem dX6_exchange_116 : decode cX6_exchange 116 = .ok (.getfield 20, 3) := by decide +kernel
theorem dX6_exchange_119 : decode cX6_exchange 119 = .ok (.iload_n 1, 1) := by decide +kernel
theorem dX6_exchange_120 : decode cX6_exchange 120 = .ok (.iaload, 1) := by decide +kernel
theorem dX6_exchange_121 : decode cX6_exchange 121 = .ok (.i2l, 1) := by decide +kernel
theorem dX6_exchange_122 : decode cX6_exchange 122 = .ok (.ladd, 1) := by decide +kernel
theorem dX6_exchange_123 : decode cX6_exchange 123 = .ok (.lstore 8, 2) := by decide +kernel
theorem dX6_exchange_125 : decode cX6_exchange 125 = .ok (.aload_n 0, 1) := by decide +kernel
theorem dX6_exchange_126 : decode cX6_exchange 126 = .ok (.iload_n 3, 1) := by decide +kernel
theorem dX6_exchange_127 : decode cX6_exchange 127 = .ok (.invokevirtual 102, 3) := by decide +kernel
theorem dX6_exchange_130 : decode cX6_exchange 130 = .ok (.aload_n 0, 1) := by decide +kernel
theorem dX6_exchange_131 : decode cX6_exchange 131 = .ok (.getfield 74, 3) := by decide +kernel
theorem dX6_exchange_134 : decode cX6_exchange 134 = .ok (.aload_n 0, 1) := by decide +kernel
theorem dX6_exchange_135 : decode cX6_exchange 135 = .ok (.getfield 20, 3) := by decide +kernel
theorem dX6_exchange_138 : decode cX6_exchange 138 = .ok (.iload_n 1, 1) := by decide +kernel
theorem dX6_exchange_139 : decode cX6_exchange 139 = .ok (.iaload, 1) := by decide +kernel
theorem dX6_exchange_140 : decode cX6_exchange 140 = .ok (.i2l, 1) := by decide +kernel
theorem dX6_exchange_141 : decode cX6_exchange 141 = .ok (.ladd, 1) := by decide +kernel
theorem dX6_exchange_142 : decode cX6_exchange 142 = .ok (.lstore 10, 2) := by decide +kernel
theorem dX6_exchange_144 : decode cX6_exchange 144 = .ok (.aload_n 0, 1) := by decide +kernel
theorem dX6_exchange_145 : decode cX6_exchange 145 = .ok (.iload 4, 2) := by decide +kernel
theorem dX6_exchange_147 : decode cX6_exchange 147 = .ok (.invokevirtual 102, 3) := by decide +kernel
theorem dX6_exchange_150 : decode cX6_exchange 150 = .ok (.aload_n 0, 1) := by decide +kernel
theorem dX6_exchange_151 : decode cX6_exchange 151 = .ok (.invokevirtual 106, 3) := by decide +kernel
theorem dX6_exchange_154 : decode cX6_exchange 154 = .ok (.lstore 12, 2) := by decide +kernel
theorem dX6_exchange_156 : decode cX6_exchange 156 = .ok (.lload 12, 2) := by decide +kernel
theorem dX6_exchange_158 : decode cX6_exchange 158 = .ok (.lload 6, 2) := by decide +kernel
theorem dX6_exchange_160 : decode cX6_exchange 160 = .ok (.lsub, 1) := by decide +kernel
theorem dX6_exchange_161 : decode cX6_exchange 161 = .ok (.lload 10, 2) := by decide +kernel
theorem dX6_exchange_163 : decode cX6_exchange 163 = .ok (.lload 8, 2) := by decide +kernel
theorem dX6_exchange_165 : decode cX6_exchange 165 = .ok (.lsub, 1) := by decide +kernel
theorem dX6_exchange_166 : decode cX6_exchange 166 = .ok (.lsub, 1) := by decide +kernel
theorem dX6_exchange_167 : decode cX6_exchange 167 = .ok (.lstore 14, 2) := by decide +kernel
theorem dX6_exchange_169 : decode cX6_exchange 169 = .ok (.lload 14, 2) := by decide +kernel
theorem dX6_exchange_171 : decode cX6_exchange 171 = .ok (.lconst 0, 1) := by decide +kernel
theorem dX6_exchange_172 : decode cX6_exchange 172 = .ok (.lcmp, 1) := by decide +kernel
theorem dX6_exchange_173 : decode cX6_exchange 173 = .ok (.ifCond .ge 7, 3) := by decide +kernel
theorem dX6_exchange_176 : decode cX6_exchange 176 = .ok (.lconst 0, 1) := by decide +kernel
theorem dX6_exchange_177 : decode cX6_exchange 177 = .ok (.goto 5, 3) := by decide +kernel
theorem dX6_exchange_180 : decode cX6_exchange 180 = .ok (.lload 14, 2) := by decide +kernel
theorem dX6_exchange_182 : decode cX6_exchange 182 = .ok (.lstore 14, 2) := by decide +kernel
theorem dX6_exchange_184 : decode cX6_exchange 184 = .ok (.aload_n 0, 1) := by decide +kernel
theorem dX6_exchange_185 : decode cX6_exchange 185 = .ok (.iload_n 1, 1) := by decide +kernel
theorem dX6_exchange_186 : decode cX6_exchange 186 = .ok (.lload 8, 2) := by decide +kernel
theorem dX6_exchange_188 : decode cX6_exchange 188 = .ok (.lload 6, 2) := by decide +kernel
theorem dX6_exchange_190 : decode cX6_exchange 190 = .ok (.lsub, 1) := by decide +kernel
theorem dX6_exchange_191 : decode cX6_exchange 191 = .ok (.lload 10, 2) := by decide +kernel
theorem dX6_exchange_193 : decode cX6_exchange 193 = .ok (.lload 12, 2) := by decide +kernel
theorem dX6_exchange_195 : decode cX6_exchange 195 = .ok (.lsub, 1) := by decide +kernel
theorem dX6_exchange_196 : decode cX6_exchange 196 = .ok (.ladd, 1) := by decide +kernel
theorem dX6_exchange_197 : decode cX6_exchange 197 = .ok (.ldc2_w 145, 3) := by decide +kernel
theorem dX6_exchange_200 : decode cX6_exchange 200 = .ok (.invokestatic 58, 3) := by decide +kernel
theorem dX6_exchange_203 : decode cX6_exchange 203 = .ok (.lload 14, 2) := by decide +kernel
theorem dX6_exchange_205 : decode cX6_exchange 205 = .ok (.lload 12, 2) := by decide +kernel
theorem dX6_exchange_207 : decode cX6_exchange 207 = .ok (.invokevirtual 147, 3) := by decide +kernel
theorem dX6_exchange_210 : decode cX6_exchange 210 = .ok (.lload 14, 2) := by decide +kernel
theorem dX6_exchange_212 : decode cX6_exchange 212 = .ok (.lreturn, 1) := by decide +kernel
theorem dX6_servers_0 : decode cX6_servers 0 = .ok (.aload_n 0, 1) := by decide +kernel
theorem dX6_servers_1 : decode cX6_servers 1 = .ok (.aload_n 0, 1) := by decide +kernel
theorem dX6_servers_2 : decode cX6_servers 2 = .ok (.getfield 95, 3) := by decide +kernel
theorem dX6_servers_5 : decode cX6_servers 5 = .ok (.invokevirtual 118, 3) := by decide +kernel
theorem dX6_servers_8 : decode cX6_servers 8 = .ok (.ireturn, 1) := by decide +kernel
theorem dX6_samples_0 : decode cX6_samples 0 = .ok (.aload_n 0, 1) := by decide +kernel
theorem dX6_samples_1 : decode cX6_samples 1 = .ok (.aload_n 0, 1) := by decide +kernel
theorem dX6_samples_2 : decode cX6_samples 2 = .ok (.iload_n 1, 1) := by decide +kernel
theorem dX6_samples_3 : decode cX6_samples 3 = .ok (.invokevirtual 138, 3) := by decide +kernel
theorem dX6_samples_6 : decode cX6_samples 6 = .ok (.ifCond .eq 7, 3) := by decide +kernel
theorem dX6_samples_9 : decode cX6_samples 9 = .ok (.iconst 0, 1) := by decide +kernel
theorem dX6_samples_10 : decode cX6_samples 10 = .ok (.goto 4, 3) := by decide +kernel
theorem dX6_samples_13 : decode cX6_samples 13 = .ok (.iconst 1, 1) := by decide +kernel
theorem dX6_samples_14 : decode cX6_samples 14 = .ok (.invokevirtual 70, 3) := by decide +kernel
theorem dX6_samples_17 : decode cX6_samples 17 = .ok (.ifCond .eq 7, 3) := by decide +kernel
theorem dX6_samples_20 : decode cX6_samples 20 = .ok (.iconst 0, 1) := by decide +kernel
theorem dX6_samples_21 : decode cX6_samples 21 = .ok (.goto 9, 3) := by decide +kernel
theorem dX6_samples_24 : decode cX6_samples 24 = .ok (.aload_n 0, 1) := by decide +kernel
theorem dX6_samples_25 : decode cX6_samples 25 = .ok (.getfield 29, 3) := by decide +kernel
theorem dX6_samples_28 : decode cX6_samples 28 = .ok (.iload_n 1, 1) := by decide +kernel
theorem dX6_samples_29 : decode cX6_samples 29 = .ok (.iaload, 1) := by decide +kernel
theorem dX6_samples_30 : decode cX6_samples 30 = .ok (.ireturn, 1) := by decide +kernel
theorem dX6_best_0 : decode cX6_best 0 = .ok (.bipush 8, 2) := by decide +kernel
theorem dX6_best_2 : decode cX6_best 2 = .ok (.iload_n 1, 1) := by decide +kernel
theorem dX6_best_3 : decode cX6_best 3 = .ok (.imul, 1) := by decide +kernel
theorem dX6_best_4 : decode cX6_best 4 = .ok (.istore_n 2, 1) := by decide +kernel
theorem dX6_best_5 : decode cX6_best 5 = .ok (.bipush 8, 2) := by decide +kernel
theorem dX6_best_7 : decode cX6_best 7 = .ok (.iload_n 1, 1) := by decide +kernel
theorem dX6_best_8 : decode cX6_best 8 = .ok (.imul, 1) := by decide +kernel
theorem dX6_best_9 : decode cX6_best 9 = .ok (.istore_n 3, 1) := by decide +kernel
theorem dX6_best_10 : decode cX6_best 10 = .ok (.iload_n 3, 1) := by decide +kernel
theorem dX6_best_11 : decode cX6_best 11 = .ok (.bipush 8, 2) := by decide +kernel
theorem dX6_best_13 : decode cX6_best 13 = .ok (.iload_n 1, 1) := by decide +kernel
theorem dX6_best_14 : decode cX6_best 14 = .ok (.imul, 1) := by decide +kernel
theorem dX6_best_15 : decode cX6_best 15 = .ok (.aload_n 0, 1) := by decide +kernel
theorem dX6_best_16 : decode cX6_best 16 = .ok (.getfield 29, 3) := by decide +kernel
theorem dX6_best_19 : decode cX6_best 19 = .ok (.iload_n 1, 1) := by decide +kernel
theorem dX6_best_20 : decode cX6_best 20 = .ok (.iaload, 1) := by decide +kernel
theorem dX6_best_21 : decode cX6_best 21 = .ok (.iadd, 1) := by decide +kernel
theorem dX6_best_22 : decode cX6_best 22 = .ok (.if_icmp .ge 31, 3) := by decide +kernel
theorem dX6_best_25 : decode cX6_best 25 = .ok (.aload_n 0, 1) := by decide +kernel
theorem dX6_best_26 : decode cX6_best 26 = .ok (.getfield 36, 3) := by decide +kernel
theorem dX6_best_29 : decode cX6_best 29 = .ok (.iload_n 3, 1) := by decide +kernel
theorem dX6_best_30 : decode cX6_best 30 = .ok (.laload, 1) := by decide +kernel
theorem dX6_best_31 : decode cX6_best 31 = .ok (.aload_n 0, 1) := by decide +kernel
theorem dX6_best_32 : decode cX6_best 32 = .ok (.getfield 36, 3) := by decide +kernel
theorem dX6_best_35 : decode cX6_best 35 = .ok (.iload_n 2, 1) := by decide +kernel
theorem dX6_best_36 : decode cX6_best 36 = .ok (.laload, 1) := by decide +kernel
theorem dX6_best_37 : decode cX6_best 37 = .ok (.lcmp, 1) := by decide +kernel
theorem dX6_best_38 : decode cX6_best 38 = .ok (.ifCond .gt 7, 3) := by decide +kernel
theorem dX6_best_41 : decode cX6_best 41 = .ok (.iload_n 3, 1) := by decide +kernel
theorem dX6_best_42 : decode cX6_best 42 = .ok (.goto 4, 3) := by decide +kernel
theorem dX6_best_45 : decode cX6_best 45 = .ok (.iload_n 2, 1) := by decide +kernel
theorem dX6_best_46 : decode cX6_best 46 = .ok (.istore_n 2, 1) := by decide +kernel
theorem dX6_best_47 : decode cX6_best 47 = .ok (.iinc 3 1, 3) := by decide +kernel
theorem dX6_best_50 : decode cX6_best 50 = .ok (.goto (-40), 3) := by decide +kernel
theorem dX6_best_53 : decode cX6_best 53 = .ok (.iload_n 2, 1) := by decide +kernel
theorem dX6_best_54 : decode cX6_best 54 = .ok (.ireturn, 1) := by decide +kernel
theorem dX6_jitterOf_0 : decode cX6_jitterOf 0 = .ok (.lconst 0, 1) := by decide +kernel
theorem dX6_jitterOf_1 : decode cX6_jitterOf 1 = .ok (.lstore_n 2, 1) := by decide +kernel
theorem dX6_jitterOf_2 : decode cX6_jitterOf 2 = .ok (.bipush 8, 2) := by decide +kernel
theorem dX6_jitterOf_4 : decode cX6_jitterOf 4 = .ok (.iload_n 1, 1) := by decide +kernel
theorem dX6_jitterOf_5 : decode cX6_jitterOf 5 = .ok (.imul, 1) := by decide +kernel
theorem dX6_jitterOf_6 : decode cX6_jitterOf 6 = .ok (.istore 4, 2) := by decide +kernel
theorem dX6_jitterOf_8 : decode cX6_jitterOf 8 = .ok (.iload 4, 2) := by decide +kernel
theorem dX6_jitterOf_10 : decode cX6_jitterOf 10 = .ok (.bipush 8, 2) := by decide +kernel
theorem dX6_jitterOf_12 : decode cX6_jitterOf 12 = .ok (.iload_n 1, 1) := by decide +kernel
theorem dX6_jitterOf_13 : decode cX6_jitterOf 13 = .ok (.imul, 1) := by decide +kernel
theorem dX6_jitterOf_14 : decode cX6_jitterOf 14 = .ok (.aload_n 0, 1) := by decide +kernel
theorem dX6_jitterOf_15 : decode cX6_jitterOf 15 = .ok (.getfield 29, 3) := by decide +kernel
theorem dX6_jitterOf_18 : decode cX6_jitterOf 18 = .ok (.iload_n 1, 1) := by decide +kernel
theorem dX6_jitterOf_19 : decode cX6_jitterOf 19 = .ok (.iaload, 1) := by decide +kernel
theorem dX6_jitterOf_20 : decode cX6_jitterOf 20 = .ok (.iadd, 1) := by decide +kernel
theorem dX6_jitterOf_21 : decode cX6_jitterOf 21 = .ok (.if_icmp .ge 33, 3) := by decide +kernel
theorem dX6_jitterOf_24 : decode cX6_jitterOf 24 = .ok (.lload_n 2, 1) := by decide +kernel
theorem dX6_jitterOf_25 : decode cX6_jitterOf 25 = .ok (.aload_n 0, 1) := by decide +kernel
theorem dX6_jitterOf_26 : decode cX6_jitterOf 26 = .ok (.getfield 32, 3) := by decide +kernel
theorem dX6_jitterOf_29 : decode cX6_jitterOf 29 = .ok (.iload 4, 2) := by decide +kernel
theorem dX6_jitterOf_31 : decode cX6_jitterOf 31 = .ok (.laload, 1) := by decide +kernel
theorem dX6_jitterOf_32 : decode cX6_jitterOf 32 = .ok (.aload_n 0, 1) := by decide +kernel
theorem dX6_jitterOf_33 : decode cX6_jitterOf 33 = .ok (.getfield 32, 3) := by decide +kernel
theorem dX6_jitterOf_36 : decode cX6_jitterOf 36 = .ok (.aload_n 0, 1) := by decide +kernel
theorem dX6_jitterOf_37 : decode cX6_jitterOf 37 = .ok (.iload_n 1, 1) := by decide +kernel
theorem dX6_jitterOf_38 : decode cX6_jitterOf 38 = .ok (.invokevirtual 151, 3) := by decide +kernel
theorem dX6_jitterOf_41 : decode cX6_jitterOf 41 = .ok (.laload, 1) := by decide +kernel
theorem dX6_jitterOf_42 : decode cX6_jitterOf 42 = .ok (.lsub, 1) := by decide +kernel
theorem dX6_jitterOf_43 : decode cX6_jitterOf 43 = .ok (.invokestatic 154, 3) := by decide +kernel
theorem dX6_jitterOf_46 : decode cX6_jitterOf 46 = .ok (.ladd, 1) := by decide +kernel
theorem dX6_jitterOf_47 : decode cX6_jitterOf 47 = .ok (.lstore_n 2, 1) := by decide +kernel
theorem dX6_jitterOf_48 : decode cX6_jitterOf 48 = .ok (.iinc 4 1, 3) := by decide +kernel
theorem dX6_jitterOf_51 : decode cX6_jitterOf 51 = .ok (.goto (-43), 3) := by decide +kernel
theorem dX6_jitterOf_54 : decode cX6_jitterOf 54 = .ok (.aload_n 0, 1) := by decide +kernel
theorem dX6_jitterOf_55 : decode cX6_jitterOf 55 = .ok (.getfield 29, 3) := by decide +kernel
theorem dX6_jitterOf_58 : decode cX6_jitterOf 58 = .ok (.iload_n 1, 1) := by decide +kernel
theorem dX6_jitterOf_59 : decode cX6_jitterOf 59 = .ok (.iaload, 1) := by decide +kernel
theorem dX6_jitterOf_60 : decode cX6_jitterOf 60 = .ok (.iconst 1, 1) := by decide +kernel
theorem dX6_jitterOf_61 : decode cX6_jitterOf 61 = .ok (.if_icmp .ne 7, 3) := by decide +kernel
theorem dX6_jitterOf_64 : decode cX6_jitterOf 64 = .ok (.lconst 0, 1) := by decide +kernel
theorem dX6_jitterOf_65 : decode cX6_jitterOf 65 = .ok (.goto 14, 3) := by decide +kernel
theorem dX6_jitterOf_68 : decode cX6_jitterOf 68 = .ok (.lload_n 2, 1) := by decide +kernel
theorem dX6_jitterOf_69 : decode cX6_jitterOf 69 = .ok (.aload_n 0, 1) := by decide +kernel
theorem dX6_jitterOf_70 : decode cX6_jitterOf 70 = .ok (.getfield 29, 3) := by decide +kernel
theorem dX6_jitterOf_73 : decode cX6_jitterOf 73 = .ok (.iload_n 1, 1) := by decide +kernel
theorem dX6_jitterOf_74 : decode cX6_jitterOf 74 = .ok (.iaload, 1) := by decide +kernel
theorem dX6_jitterOf_75 : decode cX6_jitterOf 75 = .ok (.i2l, 1) := by decide +kernel
theorem dX6_jitterOf_76 : decode cX6_jitterOf 76 = .ok (.lconst 1, 1) := by decide +kernel
theorem dX6_jitterOf_77 : decode cX6_jitterOf 77 = .ok (.lsub, 1) := by decide +kernel
theorem dX6_jitterOf_78 : decode cX6_jitterOf 78 = .ok (.ldiv, 1) := by decide +kernel
theorem dX6_jitterOf_79 : decode cX6_jitterOf 79 = .ok (.lreturn, 1) := by decide +kernel
theorem dX6_distanceOf_0 : decode cX6_distanceOf 0 = .ok (.aload_n 0, 1) := by decide +kernel
theorem dX6_distanceOf_1 : decode cX6_distanceOf 1 = .ok (.iload_n 1, 1) := by decide +kernel
theorem dX6_distanceOf_2 : decode cX6_distanceOf 2 = .ok (.invokevirtual 151, 3) := by decide +kernel
theorem dX6_distanceOf_5 : decode cX6_distanceOf 5 = .ok (.istore_n 2, 1) := by decide +kernel
theorem dX6_distanceOf_6 : decode cX6_distanceOf 6 = .ok (.aload_n 0, 1) := by decide +kernel
theorem dX6_distanceOf_7 : decode cX6_distanceOf 7 = .ok (.getfield 23, 3) := by decide +kernel
theorem dX6_distanceOf_10 : decode cX6_distanceOf 10 = .ok (.iload_n 1, 1) := by decide +kernel
theorem dX6_distanceOf_11 : decode cX6_distanceOf 11 = .ok (.iaload, 1) := by decide +kernel
theorem dX6_distanceOf_12 : decode cX6_distanceOf 12 = .ok (.iconst 2, 1) := by decide +kernel
theorem dX6_distanceOf_13 : decode cX6_distanceOf 13 = .ok (.idiv, 1) := by decide +kernel
theorem dX6_distanceOf_14 : decode cX6_distanceOf 14 = .ok (.i2l, 1) := by decide +kernel
theorem dX6_distanceOf_15 : decode cX6_distanceOf 15 = .ok (.aload_n 0, 1) := by decide +kernel
theorem dX6_distanceOf_16 : decode cX6_distanceOf 16 = .ok (.getfield 36, 3) := by decide +kernel
theorem dX6_distanceOf_19 : decode cX6_distanceOf 19 = .ok (.iload_n 2, 1) := by decide +kernel
theorem dX6_distanceOf_20 : decode cX6_distanceOf 20 = .ok (.laload, 1) := by decide +kernel
theorem dX6_distanceOf_21 : decode cX6_distanceOf 21 = .ok (.ldc2_w 145, 3) := by decide +kernel
theorem dX6_distanceOf_24 : decode cX6_distanceOf 24 = .ok (.ldiv, 1) := by decide +kernel
theorem dX6_distanceOf_25 : decode cX6_distanceOf 25 = .ok (.ladd, 1) := by decide +kernel
theorem dX6_distanceOf_26 : decode cX6_distanceOf 26 = .ok (.aload_n 0, 1) := by decide +kernel
theorem dX6_distanceOf_27 : decode cX6_distanceOf 27 = .ok (.getfield 26, 3) := by decide +kernel
theorem dX6_distanceOf_30 : decode cX6_distanceOf 30 = .ok (.iload_n 1, 1) := by decide +kernel
theorem dX6_distanceOf_31 : decode cX6_distanceOf 31 = .ok (.iaload, 1) := by decide +kernel
theorem dX6_distanceOf_32 : decode cX6_distanceOf 32 = .ok (.i2l, 1) := by decide +kernel
theorem dX6_distanceOf_33 : decode cX6_distanceOf 33 = .ok (.ladd, 1) := by decide +kernel
theorem dX6_distanceOf_34 : decode cX6_distanceOf 34 = .ok (.aload_n 0, 1) := by decide +kernel
theorem dX6_distanceOf_35 : decode cX6_distanceOf 35 = .ok (.iload_n 1, 1) := by decide +kernel
theorem dX6_distanceOf_36 : decode cX6_distanceOf 36 = .ok (.invokevirtual 157, 3) := by decide +kernel
theorem dX6_distanceOf_39 : decode cX6_distanceOf 39 = .ok (.ladd, 1) := by decide +kernel
theorem dX6_distanceOf_40 : decode cX6_distanceOf 40 = .ok (.ldc2_w 160, 3) := by decide +kernel
theorem dX6_distanceOf_43 : decode cX6_distanceOf 43 = .ok (.aload_n 0, 1) := by decide +kernel
theorem dX6_distanceOf_44 : decode cX6_distanceOf 44 = .ok (.invokevirtual 106, 3) := by decide +kernel
theorem dX6_distanceOf_47 : decode cX6_distanceOf 47 = .ok (.aload_n 0, 1) := by decide +kernel
theorem dX6_distanceOf_48 : decode cX6_distanceOf 48 = .ok (.getfield 39, 3) := by decide +kernel
theorem dX6_distanceOf_51 : decode cX6_distanceOf 51 = .ok (.iload_n 2, 1) := by decide +kernel
theorem dX6_distanceOf_52 : decode cX6_distanceOf 52 = .ok (.laload, 1) := by decide +kernel
theorem dX6_distanceOf_53 : decode cX6_distanceOf 53 = .ok (.lsub, 1) := by decide +kernel
theorem dX6_distanceOf_54 : decode cX6_distanceOf 54 = .ok (.lmul, 1) := by decide +kernel
theorem dX6_distanceOf_55 : decode cX6_distanceOf 55 = .ok (.ldc2_w 56, 3) := by decide +kernel
theorem dX6_distanceOf_58 : decode cX6_distanceOf 58 = .ok (.invokestatic 58, 3) := by decide +kernel
theorem dX6_distanceOf_61 : decode cX6_distanceOf 61 = .ok (.ladd, 1) := by decide +kernel
theorem dX6_distanceOf_62 : decode cX6_distanceOf 62 = .ok (.lreturn, 1) := by decide +kernel
theorem dX6_noSample_0 : decode cX6_noSample 0 = .ok (.aload_n 0, 1) := by decide +kernel
theorem dX6_noSample_1 : decode cX6_noSample 1 = .ok (.aload_n 0, 1) := by decide +kernel
theorem dX6_noSample_2 : decode cX6_noSample 2 = .ok (.iload_n 1, 1) := by decide +kernel
theorem dX6_noSample_3 : decode cX6_noSample 3 = .ok (.invokevirtual 138, 3) := by decide +kernel
theorem dX6_noSample_6 : decode cX6_noSample 6 = .ok (.ifCond .ne 7, 3) := by decide +kernel
theorem dX6_noSample_9 : decode cX6_noSample 9 = .ok (.iconst 1, 1) := by decide +kernel
theorem dX6_noSample_10 : decode cX6_noSample 10 = .ok (.goto 17, 3) := by decide +kernel
theorem dX6_noSample_13 : decode cX6_noSample 13 = .ok (.aload_n 0, 1) := by decide +kernel
theorem dX6_noSample_14 : decode cX6_noSample 14 = .ok (.getfield 29, 3) := by decide +kernel
theorem dX6_noSample_17 : decode cX6_noSample 17 = .ok (.iload_n 1, 1) := by decide +kernel
theorem dX6_noSample_18 : decode cX6_noSample 18 = .ok (.iaload, 1) := by decide +kernel
theorem dX6_noSample_19 : decode cX6_noSample 19 = .ok (.ifCond .ne 7, 3) := by decide +kernel
theorem dX6_noSample_22 : decode cX6_noSample 22 = .ok (.iconst 2, 1) := by decide +kernel
theorem dX6_noSample_23 : decode cX6_noSample 23 = .ok (.goto 4, 3) := by decide +kernel
theorem dX6_noSample_26 : decode cX6_noSample 26 = .ok (.iconst 0, 1) := by decide +kernel
theorem dX6_noSample_27 : decode cX6_noSample 27 = .ok (.invokevirtual 70, 3) := by decide +kernel
theorem dX6_noSample_30 : decode cX6_noSample 30 = .ok (.ireturn, 1) := by decide +kernel
theorem dX6_offset_0 : decode cX6_offset 0 = .ok (.aload_n 0, 1) := by decide +kernel
theorem dX6_offset_1 : decode cX6_offset 1 = .ok (.iload_n 1, 1) := by decide +kernel
theorem dX6_offset_2 : decode cX6_offset 2 = .ok (.invokevirtual 162, 3) := by decide +kernel
theorem dX6_offset_5 : decode cX6_offset 5 = .ok (.ifCond .eq 7, 3) := by decide +kernel
theorem dX6_offset_8 : decode cX6_offset 8 = .ok (.lconst 0, 1) := by decide +kernel
theorem dX6_offset_9 : decode cX6_offset 9 = .ok (.goto 13, 3) := by decide +kernel
theorem dX6_offset_12 : decode cX6_offset 12 = .ok (.aload_n 0, 1) := by decide +kernel
theorem dX6_offset_13 : decode cX6_offset 13 = .ok (.getfield 32, 3) := by decide +kernel
theorem dX6_offset_16 : decode cX6_offset 16 = .ok (.aload_n 0, 1) := by decide +kernel
theorem dX6_offset_17 : decode cX6_offset 17 = .ok (.iload_n 1, 1) := by decide +kernel
theorem dX6_offset_18 : decode cX6_offset 18 = .ok (.invokevirtual 151, 3) := by decide +kernel
theorem dX6_offset_21 : decode cX6_offset 21 = .ok (.laload, 1) := by decide +kernel
theorem dX6_offset_22 : decode cX6_offset 22 = .ok (.lreturn, 1) := by decide +kernel
theorem dX6_delay_0 : decode cX6_delay 0 = .ok (.aload_n 0, 1) := by decide +kernel
theorem dX6_delay_1 : decode cX6_delay 1 = .ok (.iload_n 1, 1) := by decide +kernel
theorem dX6_delay_2 : decode cX6_delay 2 = .ok (.invokevirtual 162, 3) := by decide +kernel
theorem dX6_delay_5 : decode cX6_delay 5 = .ok (.ifCond .eq 7, 3) := by decide +kernel
theorem dX6_delay_8 : decode cX6_delay 8 = .ok (.lconst 0, 1) := by decide +kernel
theorem dX6_delay_9 : decode cX6_delay 9 = .ok (.goto 13, 3) := by decide +kernel
theorem dX6_delay_12 : decode cX6_delay 12 = .ok (.aload_n 0, 1) := by decide +kernel
theorem dX6_delay_13 : decode cX6_delay 13 = .ok (.getfield 36, 3) := by decide +kernel
theorem dX6_delay_16 : decode cX6_delay 16 = .ok (.aload_n 0, 1) := by decide +kernel
theorem dX6_delay_17 : decode cX6_delay 17 = .ok (.iload_n 1, 1) := by decide +kernel
theorem dX6_delay_18 : decode cX6_delay 18 = .ok (.invokevirtual 151, 3) := by decide +kernel
theorem dX6_delay_21 : decode cX6_delay 21 = .ok (.laload, 1) := by decide +kernel
theorem dX6_delay_22 : decode cX6_delay 22 = .ok (.lreturn, 1) := by decide +kernel
theorem dX6_jitter_0 : decode cX6_jitter 0 = .ok (.aload_n 0, 1) := by decide +kernel
theorem dX6_jitter_1 : decode cX6_jitter 1 = .ok (.iload_n 1, 1) := by decide +kernel
theorem dX6_jitter_2 : decode cX6_jitter 2 = .ok (.invokevirtual 162, 3) := by decide +kernel
theorem dX6_jitter_5 : decode cX6_jitter 5 = .ok (.ifCond .eq 7, 3) := by decide +kernel
theorem dX6_jitter_8 : decode cX6_jitter 8 = .ok (.lconst 0, 1) := by decide +kernel
theorem dX6_jitter_9 : decode cX6_jitter 9 = .ok (.goto 8, 3) := by decide +kernel
theorem dX6_jitter_12 : decode cX6_jitter 12 = .ok (.aload_n 0, 1) := by decide +kernel
theorem dX6_jitter_13 : decode cX6_jitter 13 = .ok (.iload_n 1, 1) := by decide +kernel
theorem dX6_jitter_14 : decode cX6_jitter 14 = .ok (.invokevirtual 157, 3) := by decide +kernel
theorem dX6_jitter_17 : decode cX6_jitter 17 = .ok (.lreturn, 1) := by decide +kernel
theorem dX6_distance_0 : decode cX6_distance 0 = .ok (.aload_n 0, 1) := by decide +kernel
theorem dX6_distance_1 : decode cX6_distance 1 = .ok (.iload_n 1, 1) := by decide +kernel
theorem dX6_distance_2 : decode cX6_distance 2 = .ok (.invokevirtual 162, 3) := by decide +kernel
theorem dX6_distance_5 : decode cX6_distance 5 = .ok (.ifCond .eq 7, 3) := by decide +kernel
theorem dX6_distance_8 : decode cX6_distance 8 = .ok (.lconst 0, 1) := by decide +kernel
theorem dX6_distance_9 : decode cX6_distance 9 = .ok (.goto 8, 3) := by decide +kernel
theorem dX6_distance_12 : decode cX6_distance 12 = .ok (.aload_n 0, 1) := by decide +kernel
theorem dX6_distance_13 : decode cX6_distance 13 = .ok (.iload_n 1, 1) := by decide +kernel
theorem dX6_distance_14 : decode cX6_distance 14 = .ok (.invokevirtual 165, 3) := by decide +kernel
theorem dX6_distance_17 : decode cX6_distance 17 = .ok (.lreturn, 1) := by decide +kernel
theorem dX6_from_0 : decode cX6_from 0 = .ok (.aload_n 0, 1) := by decide +kernel
theorem dX6_from_1 : decode cX6_from 1 = .ok (.getfield 32, 3) := by decide +kernel
theorem dX6_from_4 : decode cX6_from 4 = .ok (.aload_n 0, 1) := by decide +kernel
theorem dX6_from_5 : decode cX6_from 5 = .ok (.iload_n 1, 1) := by decide +kernel
theorem dX6_from_6 : decode cX6_from 6 = .ok (.invokevirtual 151, 3) := by decide +kernel
theorem dX6_from_9 : decode cX6_from 9 = .ok (.laload, 1) := by decide +kernel
theorem dX6_from_10 : decode cX6_from 10 = .ok (.aload_n 0, 1) := by decide +kernel
theorem dX6_from_11 : decode cX6_from 11 = .ok (.iload_n 1, 1) := by decide +kernel
theorem dX6_from_12 : decode cX6_from 12 = .ok (.invokevirtual 165, 3) := by decide +kernel
theorem dX6_from_15 : decode cX6_from 15 = .ok (.lsub, 1) := by decide +kernel
theorem dX6_from_16 : decode cX6_from 16 = .ok (.lreturn, 1) := by decide +kernel
theorem dX6_to_0 : decode cX6_to 0 = .ok (.aload_n 0, 1) := by decide +kernel
theorem dX6_to_1 : decode cX6_to 1 = .ok (.getfield 32, 3) := by decide +kernel
theorem dX6_to_4 : decode cX6_to 4 = .ok (.aload_n 0, 1) := by decide +kernel
theorem dX6_to_5 : decode cX6_to 5 = .ok (.iload_n 1, 1) := by decide +kernel
theorem dX6_to_6 : decode cX6_to 6 = .ok (.invokevirtual 151, 3) := by decide +kernel
theorem dX6_to_9 : decode cX6_to 9 = .ok (.laload, 1) := by decide +kernel
theorem dX6_to_10 : decode cX6_to 10 = .ok (.aload_n 0, 1) := by decide +kernel
theorem dX6_to_11 : decode cX6_to 11 = .ok (.iload_n 1, 1) := by decide +kernel
theorem dX6_to_12 : decode cX6_to 12 = .ok (.invokevirtual 165, 3) := by decide +kernel
theorem dX6_to_15 : decode cX6_to 15 = .ok (.ladd, 1) := by decide +kernel
theorem dX6_to_16 : decode cX6_to 16 = .ok (.lreturn, 1) := by decide +kernel
theorem dX6_has_0 : decode cX6_has 0 = .ok (.aload_n 0, 1) := by decide +kernel
theorem dX6_has_1 : decode cX6_has 1 = .ok (.getfield 29, 3) := by decide +kernel
theorem dX6_has_4 : decode cX6_has 4 = .ok (.iload_n 1, 1) := by decide +kernel
theorem dX6_has_5 : decode cX6_has 5 = .ok (.iaload, 1) := by decide +kernel
theorem dX6_has_6 : decode cX6_has 6 = .ok (.ifCond .le 27, 3) := by decide +kernel
theorem dX6_has_9 : decode cX6_has 9 = .ok (.aload_n 0, 1) := by decide +kernel
theorem dX6_has_10 : decode cX6_has 10 = .ok (.iload_n 1, 1) := by decide +kernel
theorem dX6_has_11 : decode cX6_has 11 = .ok (.invokevirtual 168, 3) := by decide +kernel
theorem dX6_has_14 : decode cX6_has 14 = .ok (.lload_n 2, 1) := by decide +kernel
theorem dX6_has_15 : decode cX6_has 15 = .ok (.lcmp, 1) := by decide +kernel
theorem dX6_has_16 : decode cX6_has 16 = .ok (.ifCond .gt 17, 3) := by decide +kernel
theorem dX6_has_19 : decode cX6_has 19 = .ok (.lload_n 2, 1) := by decide +kernel
theorem dX6_has_20 : decode cX6_has 20 = .ok (.aload_n 0, 1) := by decide +kernel
theorem dX6_has_21 : decode cX6_has 21 = .ok (.iload_n 1, 1) := by decide +kernel
theorem dX6_has_22 : decode cX6_has 22 = .ok (.invokevirtual 171, 3) := by decide +kernel
theorem dX6_has_25 : decode cX6_has 25 = .ok (.lcmp, 1) := by decide +kernel
theorem dX6_has_26 : decode cX6_has 26 = .ok (.ifCond .gt 7, 3) := by decide +kernel
theorem dX6_has_29 : decode cX6_has 29 = .ok (.iconst 1, 1) := by decide +kernel
theorem dX6_has_30 : decode cX6_has 30 = .ok (.goto 4, 3) := by decide +kernel
theorem dX6_has_33 : decode cX6_has 33 = .ok (.iconst 0, 1) := by decide +kernel
theorem dX6_has_34 : decode cX6_has 34 = .ok (.ireturn, 1) := by decide +kernel
theorem dX6_covers_0 : decode cX6_covers 0 = .ok (.iconst 0, 1) := by decide +kernel
theorem dX6_covers_1 : decode cX6_covers 1 = .ok (.istore_n 3, 1) := by decide +kernel
theorem dX6_covers_2 : decode cX6_covers 2 = .ok (.iconst 0, 1) := by decide +kernel
theorem dX6_covers_3 : decode cX6_covers 3 = .ok (.istore 4, 2) := by decide +kernel
theorem dX6_covers_5 : decode cX6_covers 5 = .ok (.iload 4, 2) := by decide +kernel
theorem dX6_covers_7 : decode cX6_covers 7 = .ok (.aload_n 0, 1) := by decide +kernel
theorem dX6_covers_8 : decode cX6_covers 8 = .ok (.getfield 95, 3) := by decide +kernel
theorem dX6_covers_11 : decode cX6_covers 11 = .ok (.if_icmp .ge 27, 3) := by decide +kernel
theorem dX6_covers_14 : decode cX6_covers 14 = .ok (.iload_n 3, 1) := by decide +kernel
theorem dX6_covers_15 : decode cX6_covers 15 = .ok (.aload_n 0, 1) := by decide +kernel
theorem dX6_covers_16 : decode cX6_covers 16 = .ok (.iload 4, 2) := by decide +kernel
theorem dX6_covers_18 : decode cX6_covers 18 = .ok (.lload_n 1, 1) := by decide +kernel
theorem dX6_covers_19 : decode cX6_covers 19 = .ok (.invokevirtual 174, 3) := by decide +kernel
theorem dX6_covers_22 : decode cX6_covers 22 = .ok (.ifCond .eq 7, 3) := by decide +kernel
theorem dX6_covers_25 : decode cX6_covers 25 = .ok (.iconst 1, 1) := by decide +kernel
theorem dX6_covers_26 : decode cX6_covers 26 = .ok (.goto 4, 3) := by decide +kernel
theorem dX6_covers_29 : decode cX6_covers 29 = .ok (.iconst 0, 1) := by decide +kernel
theorem dX6_covers_30 : decode cX6_covers 30 = .ok (.iadd, 1) := by decide +kernel
theorem dX6_covers_31 : decode cX6_covers 31 = .ok (.istore_n 3, 1) := by decide +kernel
theorem dX6_covers_32 : decode cX6_covers 32 = .ok (.iinc 4 1, 3) := by decide +kernel
theorem dX6_covers_35 : decode cX6_covers 35 = .ok (.goto (-30), 3) := by decide +kernel
theorem dX6_covers_38 : decode cX6_covers 38 = .ok (.iload_n 3, 1) := by decide +kernel
theorem dX6_covers_39 : decode cX6_covers 39 = .ok (.ireturn, 1) := by decide +kernel
theorem dX6_intersect_0 : decode cX6_intersect 0 = .ok (.aload_n 0, 1) := by decide +kernel
theorem dX6_intersect_1 : decode cX6_intersect 1 = .ok (.iconst 0, 1) := by decide +kernel
theorem dX6_intersect_2 : decode cX6_intersect 2 = .ok (.putfield 178, 3) := by decide +kernel
theorem dX6_intersect_5 : decode cX6_intersect 5 = .ok (.aload_n 0, 1) := by decide +kernel
theorem dX6_intersect_6 : decode cX6_intersect 6 = .ok (.iconst 0, 1) := by decide +kernel
theorem dX6_intersect_7 : decode cX6_intersect 7 = .ok (.putfield 181, 3) := by decide +kernel
theorem dX6_intersect_10 : decode cX6_intersect 10 = .ok (.iconst 0, 1) := by decide +kernel
theorem dX6_intersect_11 : decode cX6_intersect 11 = .ok (.istore_n 1, 1) := by decide +kernel
theorem dX6_intersect_12 : decode cX6_intersect 12 = .ok (.iload_n 1, 1) := by decide +kernel
theorem dX6_intersect_13 : decode cX6_intersect 13 = .ok (.aload_n 0, 1) := by decide +kernel
theorem dX6_intersect_14 : decode cX6_intersect 14 = .ok (.getfield 95, 3) := by decide +kernel
theorem dX6_intersect_17 : decode cX6_intersect 17 = .ok (.if_icmp .ge 109, 3) := by decide +kernel
theorem dX6_intersect_20 : decode cX6_intersect 20 = .ok (.aload_n 0, 1) := by decide +kernel
theorem dX6_intersect_21 : decode cX6_intersect 21 = .ok (.getfield 29, 3) := by decide +kernel
theorem dX6_intersect_24 : decode cX6_intersect 24 = .ok (.iload_n 1, 1) := by decide +kernel
theorem dX6_intersect_25 : decode cX6_intersect 25 = .ok (.iaload, 1) := by decide +kernel
theorem dX6_intersect_26 : decode cX6_intersect 26 = .ok (.ifCond .le 94, 3) := by decide +kernel
theorem dX6_intersect_29 : decode cX6_intersect 29 = .ok (.aload_n 0, 1) := by decide +kernel
theorem dX6_intersect_30 : decode cX6_intersect 30 = .ok (.aload_n 0, 1) := by decide +kernel
theorem dX6_intersect_31 : decode cX6_intersect 31 = .ok (.iload_n 1, 1) := by decide +kernel
theorem dX6_intersect_32 : decode cX6_intersect 32 = .ok (.invokevirtual 168, 3) := by decide +kernel
theorem dX6_intersect_35 : decode cX6_intersect 35 = .ok (.invokevirtual 184, 3) := by decide +kernel
theorem dX6_intersect_38 : decode cX6_intersect 38 = .ok (.istore_n 2, 1) := by decide +kernel
theorem dX6_intersect_39 : decode cX6_intersect 39 = .ok (.iload_n 2, 1) := by decide +kernel
theorem dX6_intersect_40 : decode cX6_intersect 40 = .ok (.aload_n 0, 1) := by decide +kernel
theorem dX6_intersect_41 : decode cX6_intersect 41 = .ok (.getfield 181, 3) := by decide +kernel
theorem dX6_intersect_44 : decode cX6_intersect 44 = .ok (.if_icmp .gt 24, 3) := by decide +kernel
theorem dX6_intersect_47 : decode cX6_intersect 47 = .ok (.iload_n 2, 1) := by decide +kernel
theorem dX6_intersect_48 : decode cX6_intersect 48 = .ok (.aload_n 0, 1) := by decide +kernel
theorem dX6_intersect_49 : decode cX6_intersect 49 = .ok (.getfield 181, 3) := by decide +kernel
theorem dX6_intersect_52 : decode cX6_intersect 52 = .ok (.if_icmp .ne 20, 3) := by decide +kernel
theorem dX6_intersect_55 : decode cX6_intersect 55 = .ok (.aload_n 0, 1) := by decide +kernel
theorem dX6_intersect_56 : decode cX6_intersect 56 = .ok (.iload_n 1, 1) := by decide +kernel
theorem dX6_intersect_57 : decode cX6_intersect 57 = .ok (.invokevirtual 168, 3) := by decide +kernel
theorem dX6_intersect_60 : decode cX6_intersect 60 = .ok (.aload_n 0, 1) := by decide +kernel
theorem dX6_intersect_61 : decode cX6_intersect 61 = .ok (.getfield 188, 3) := by decide +kernel
theorem dX6_intersect_64 : decode cX6_intersect 64 = .ok (.lcmp, 1) := by decide +kernel
theorem dX6_intersect_65 : decode cX6_intersect 65 = .ok (.ifCond .ge 7, 3) := by decide +kernel
theorem dX6_intersect_68 : decode cX6_intersect 68 = .ok (.iconst 1, 1) := by decide +kernel
theorem dX6_intersect_69 : decode cX6_intersect 69 = .ok (.goto 4, 3) := by decide +kernel
theorem dX6_intersect_72 : decode cX6_intersect 72 = .ok (.iconst 0, 1) := by decide +kernel
theorem dX6_intersect_73 : decode cX6_intersect 73 = .ok (.istore_n 3, 1) := by decide +kernel
theorem dX6_intersect_74 : decode cX6_intersect 74 = .ok (.aload_n 0, 1) := by decide +kernel
theorem dX6_intersect_75 : decode cX6_intersect 75 = .ok (.dup, 1) := by decide +kernel
theorem dX6_intersect_76 : decode cX6_intersect 76 = .ok (.getfield 178, 3) := by decide +kernel
theorem dX6_intersect_79 : decode cX6_intersect 79 = .ok (.iconst 1, 1) := by decide +kernel
theorem dX6_intersect_80 : decode cX6_intersect 80 = .ok (.iadd, 1) := by decide +kernel
theorem dX6_intersect_81 : decode cX6_intersect 81 = .ok (.putfield 178, 3) := by decide +kernel
theorem dX6_intersect_84 : decode cX6_intersect 84 = .ok (.aload_n 0, 1) := by decide +kernel
theorem dX6_intersect_85 : decode cX6_intersect 85 = .ok (.iload_n 3, 1) := by decide +kernel
theorem dX6_intersect_86 : decode cX6_intersect 86 = .ok (.ifCond .eq 11, 3) := by decide +kernel
theorem dX6_intersect_89 : decode cX6_intersect 89 = .ok (.aload_n 0, 1) := by decide +kernel
theorem dX6_intersect_90 : decode cX6_intersect 90 = .ok (.iload_n 1, 1) := by decide +kernel
theorem dX6_intersect_91 : decode cX6_intersect 91 = .ok (.invokevirtual 168, 3) := by decide +kernel
theorem dX6_intersect_94 : decode cX6_intersect 94 = .ok (.goto 7, 3) := by decide +kernel
theorem dX6_intersect_97 : decode cX6_intersect 97 = .ok (.aload_n 0, 1) := by decide +kernel
theorem dX6_intersect_98 : decode cX6_intersect 98 = .ok (.getfield 188, 3) := by decide +kernel
theorem dX6_intersect_101 : decode cX6_intersect 101 = .ok (.putfield 188, 3) := by decide +kernel
theorem dX6_intersect_104 : decode cX6_intersect 104 = .ok (.aload_n 0, 1) := by decide +kernel
theorem dX6_intersect_105 : decode cX6_intersect 105 = .ok (.iload_n 3, 1) := by decide +kernel
theorem dX6_intersect_106 : decode cX6_intersect 106 = .ok (.ifCond .eq 7, 3) := by decide +kernel
theorem dX6_intersect_109 : decode cX6_intersect 109 = .ok (.iload_n 2, 1) := by decide +kernel
theorem dX6_intersect_110 : decode cX6_intersect 110 = .ok (.goto 7, 3) := by decide +kernel
theorem dX6_intersect_113 : decode cX6_intersect 113 = .ok (.aload_n 0, 1) := by decide +kernel
theorem dX6_intersect_114 : decode cX6_intersect 114 = .ok (.getfield 181, 3) := by decide +kernel
theorem dX6_intersect_117 : decode cX6_intersect 117 = .ok (.putfield 181, 3) := by decide +kernel
theorem dX6_intersect_120 : decode cX6_intersect 120 = .ok (.iinc 1 1, 3) := by decide +kernel
theorem dX6_intersect_123 : decode cX6_intersect 123 = .ok (.goto (-111), 3) := by decide +kernel
theorem dX6_intersect_126 : decode cX6_intersect 126 = .ok (.iconst 1, 1) := by decide +kernel
theorem dX6_intersect_127 : decode cX6_intersect 127 = .ok (.istore_n 1, 1) := by decide +kernel
theorem dX6_intersect_128 : decode cX6_intersect 128 = .ok (.iconst 0, 1) := by decide +kernel
theorem dX6_intersect_129 : decode cX6_intersect 129 = .ok (.istore_n 2, 1) := by decide +kernel
theorem dX6_intersect_130 : decode cX6_intersect 130 = .ok (.iload_n 2, 1) := by decide +kernel
theorem dX6_intersect_131 : decode cX6_intersect 131 = .ok (.bipush 8, 2) := by decide +kernel
theorem dX6_intersect_133 : decode cX6_intersect 133 = .ok (.if_icmp .ge 91, 3) := by decide +kernel
theorem dX6_intersect_136 : decode cX6_intersect 136 = .ok (.aload_n 0, 1) := by decide +kernel
theorem dX6_intersect_137 : decode cX6_intersect 137 = .ok (.getfield 42, 3) := by decide +kernel
theorem dX6_intersect_140 : decode cX6_intersect 140 = .ok (.iload_n 2, 1) := by decide +kernel
theorem dX6_intersect_141 : decode cX6_intersect 141 = .ok (.iload_n 2, 1) := by decide +kernel
theorem dX6_intersect_142 : decode cX6_intersect 142 = .ok (.aload_n 0, 1) := by decide +kernel
theorem dX6_intersect_143 : decode cX6_intersect 143 = .ok (.getfield 95, 3) := by decide +kernel
theorem dX6_intersect_146 : decode cX6_intersect 146 = .ok (.if_icmp .ge 26, 3) := by decide +kernel
theorem dX6_intersect_149 : decode cX6_intersect 149 = .ok (.aload_n 0, 1) := by decide +kernel
theorem dX6_intersect_150 : decode cX6_intersect 150 = .ok (.getfield 178, 3) := by decide +kernel
theorem dX6_intersect_153 : decode cX6_intersect 153 = .ok (.ifCond .le 19, 3) := by decide +kernel
theorem dX6_intersect_156 : decode cX6_intersect 156 = .ok (.aload_n 0, 1) := by decide +kernel
theorem dX6_intersect_157 : decode cX6_intersect 157 = .ok (.iload_n 2, 1) := by decide +kernel
theorem dX6_intersect_158 : decode cX6_intersect 158 = .ok (.aload_n 0, 1) := by decide +kernel
theorem dX6_intersect_159 : decode cX6_intersect 159 = .ok (.getfield 188, 3) := by decide +kernel
theorem dX6_intersect_162 : decode cX6_intersect 162 = .ok (.invokevirtual 174, 3) := by decide +kernel
theorem dX6_intersect_165 : decode cX6_intersect 165 = .ok (.ifCond .eq 7, 3) := by decide +kernel
theorem dX6_intersect_168 : decode cX6_intersect 168 = .ok (.iconst 1, 1) := by decide +kernel
theorem dX6_intersect_169 : decode cX6_intersect 169 = .ok (.goto 4, 3) := by decide +kernel
theorem dX6_intersect_172 : decode cX6_intersect 172 = .ok (.iconst 0, 1) := by decide +kernel
theorem dX6_intersect_173 : decode cX6_intersect 173 = .ok (.bastore, 1) := by decide +kernel
theorem dX6_intersect_174 : decode cX6_intersect 174 = .ok (.aload_n 0, 1) := by decide +kernel
theorem dX6_intersect_175 : decode cX6_intersect 175 = .ok (.getfield 42, 3) := by decide +kernel
theorem dX6_intersect_178 : decode cX6_intersect 178 = .ok (.iload_n 2, 1) := by decide +kernel
theorem dX6_intersect_179 : decode cX6_intersect 179 = .ok (.baload, 1) := by decide +kernel
theorem dX6_intersect_180 : decode cX6_intersect 180 = .ok (.ifCond .eq 38, 3) := by decide +kernel
theorem dX6_intersect_183 : decode cX6_intersect 183 = .ok (.aload_n 0, 1) := by decide +kernel
theorem dX6_intersect_184 : decode cX6_intersect 184 = .ok (.iload_n 1, 1) := by decide +kernel
theorem dX6_intersect_185 : decode cX6_intersect 185 = .ok (.ifCond .ne 16, 3) := by decide +kernel
theorem dX6_intersect_188 : decode cX6_intersect 188 = .ok (.aload_n 0, 1) := by decide +kernel
theorem dX6_intersect_189 : decode cX6_intersect 189 = .ok (.iload_n 2, 1) := by decide +kernel
theorem dX6_intersect_190 : decode cX6_intersect 190 = .ok (.invokevirtual 171, 3) := by decide +kernel
theorem dX6_intersect_193 : decode cX6_intersect 193 = .ok (.aload_n 0, 1) := by decide +kernel
theorem dX6_intersect_194 : decode cX6_intersect 194 = .ok (.getfield 191, 3) := by decide +kernel
theorem dX6_intersect_197 : decode cX6_intersect 197 = .ok (.lcmp, 1) := by decide +kernel
theorem dX6_intersect_198 : decode cX6_intersect 198 = .ok (.ifCond .ge 11, 3) := by decide +kernel
theorem dX6_intersect_201 : decode cX6_intersect 201 = .ok (.aload_n 0, 1) := by decide +kernel
theorem dX6_intersect_202 : decode cX6_intersect 202 = .ok (.iload_n 2, 1) := by decide +kernel
theorem dX6_intersect_203 : decode cX6_intersect 203 = .ok (.invokevirtual 171, 3) := by decide +kernel
theorem dX6_intersect_206 : decode cX6_intersect 206 = .ok (.goto 7, 3) := by decide +kernel
theorem dX6_intersect_209 : decode cX6_intersect 209 = .ok (.aload_n 0, 1) := by decide +kernel
theorem dX6_intersect_210 : decode cX6_intersect 210 = .ok (.getfield 191, 3) := by decide +kernel
theorem dX6_intersect_213 : decode cX6_intersect 213 = .ok (.putfield 191, 3) := by decide +kernel
theorem dX6_intersect_216 : decode cX6_intersect 216 = .ok (.iconst 0, 1) := by decide +kernel
theorem dX6_intersect_217 : decode cX6_intersect 217 = .ok (.istore_n 1, 1) := by decide +kernel
theorem dX6_intersect_218 : decode cX6_intersect 218 = .ok (.iinc 2 1, 3) := by decide +kernel
theorem dX6_intersect_221 : decode cX6_intersect 221 = .ok (.goto (-91), 3) := by decide +kernel
theorem dX6_intersect_224 : decode cX6_intersect 224 = .ok (.return_, 1) := by decide +kernel
theorem dX6_surviving_0 : decode cX6_surviving 0 = .ok (.iconst 0, 1) := by decide +kernel
theorem dX6_surviving_1 : decode cX6_surviving 1 = .ok (.istore_n 1, 1) := by decide +kernel
theorem dX6_surviving_2 : decode cX6_surviving 2 = .ok (.iconst 0, 1) := by decide +kernel
theorem dX6_surviving_3 : decode cX6_surviving 3 = .ok (.istore_n 2, 1) := by decide +kernel
theorem dX6_surviving_4 : decode cX6_surviving 4 = .ok (.iload_n 2, 1) := by decide +kernel
theorem dX6_surviving_5 : decode cX6_surviving 5 = .ok (.bipush 8, 2) := by decide +kernel
theorem dX6_surviving_7 : decode cX6_surviving 7 = .ok (.if_icmp .ge 26, 3) := by decide +kernel
theorem dX6_surviving_10 : decode cX6_surviving 10 = .ok (.iload_n 1, 1) := by decide +kernel
theorem dX6_surviving_11 : decode cX6_surviving 11 = .ok (.aload_n 0, 1) := by decide +kernel
theorem dX6_surviving_12 : decode cX6_surviving 12 = .ok (.getfield 46, 3) := by decide +kernel
theorem dX6_surviving_15 : decode cX6_surviving 15 = .ok (.iload_n 2, 1) := by decide +kernel
theorem dX6_surviving_16 : decode cX6_surviving 16 = .ok (.baload, 1) := by decide +kernel
theorem dX6_surviving_17 : decode cX6_surviving 17 = .ok (.ifCond .eq 7, 3) := by decide +kernel
theorem dX6_surviving_20 : decode cX6_surviving 20 = .ok (.iconst 1, 1) := by decide +kernel
theorem dX6_surviving_21 : decode cX6_surviving 21 = .ok (.goto 4, 3) := by decide +kernel
theorem dX6_surviving_24 : decode cX6_surviving 24 = .ok (.iconst 0, 1) := by decide +kernel
theorem dX6_surviving_25 : decode cX6_surviving 25 = .ok (.iadd, 1) := by decide +kernel
theorem dX6_surviving_26 : decode cX6_surviving 26 = .ok (.istore_n 1, 1) := by decide +kernel
theorem dX6_surviving_27 : decode cX6_surviving 27 = .ok (.iinc 2 1, 3) := by decide +kernel
theorem dX6_surviving_30 : decode cX6_surviving 30 = .ok (.goto (-26), 3) := by decide +kernel
theorem dX6_surviving_33 : decode cX6_surviving 33 = .ok (.iload_n 1, 1) := by decide +kernel
theorem dX6_surviving_34 : decode cX6_surviving 34 = .ok (.ireturn, 1) := by decide +kernel
theorem dX6_spread_0 : decode cX6_spread 0 = .ok (.lconst 0, 1) := by decide +kernel
theorem dX6_spread_1 : decode cX6_spread 1 = .ok (.lstore_n 2, 1) := by decide +kernel
theorem dX6_spread_2 : decode cX6_spread 2 = .ok (.iconst 0, 1) := by decide +kernel
theorem dX6_spread_3 : decode cX6_spread 3 = .ok (.istore 4, 2) := by decide +kernel
theorem dX6_spread_5 : decode cX6_spread 5 = .ok (.iload 4, 2) := by decide +kernel
theorem dX6_spread_7 : decode cX6_spread 7 = .ok (.bipush 8, 2) := by decide +kernel
theorem dX6_spread_9 : decode cX6_spread 9 = .ok (.if_icmp .ge 57, 3) := by decide +kernel
theorem dX6_spread_12 : decode cX6_spread 12 = .ok (.lload_n 2, 1) := by decide +kernel
theorem dX6_spread_13 : decode cX6_spread 13 = .ok (.aload_n 0, 1) := by decide +kernel
theorem dX6_spread_14 : decode cX6_spread 14 = .ok (.getfield 46, 3) := by decide +kernel
theorem dX6_spread_17 : decode cX6_spread 17 = .ok (.iload 4, 2) := by decide +kernel
theorem dX6_spread_19 : decode cX6_spread 19 = .ok (.baload, 1) := by decide +kernel
theorem dX6_spread_20 : decode cX6_spread 20 = .ok (.ifCond .eq 37, 3) := by decide +kernel
theorem dX6_spread_23 : decode cX6_spread 23 = .ok (.iload 4, 2) := by decide +kernel
theorem dX6_spread_25 : decode cX6_spread 25 = .ok (.iload_n 1, 1) := by decide +kernel
theorem dX6_spread_26 : decode cX6_spread 26 = .ok (.if_icmp .eq 31, 3) := by decide +kernel
theorem dX6_spread_29 : decode cX6_spread 29 = .ok (.aload_n 0, 1) := by decide +kernel
theorem dX6_spread_30 : decode cX6_spread 30 = .ok (.getfield 32, 3) := by decide +kernel
theorem dX6_spread_33 : decode cX6_spread 33 = .ok (.aload_n 0, 1) := by decide +kernel
theorem dX6_spread_34 : decode cX6_spread 34 = .ok (.iload 4, 2) := by decide +kernel
theorem dX6_spread_36 : decode cX6_spread 36 = .ok (.invokevirtual 151, 3) := by decide +kernel
theorem dX6_spread_39 : decode cX6_spread 39 = .ok (.laload, 1) := by decide +kernel
theorem dX6_spread_40 : decode cX6_spread 40 = .ok (.aload_n 0, 1) := by decide +kernel
theorem dX6_spread_41 : decode cX6_spread 41 = .ok (.getfield 32, 3) := by decide +kernel
theorem dX6_spread_44 : decode cX6_spread 44 = .ok (.aload_n 0, 1) := by decide +kernel
theorem dX6_spread_45 : decode cX6_spread 45 = .ok (.iload_n 1, 1) := by decide +kernel
theorem dX6_spread_46 : decode cX6_spread 46 = .ok (.invokevirtual 151, 3) := by decide +kernel
theorem dX6_spread_49 : decode cX6_spread 49 = .ok (.laload, 1) := by decide +kernel
theorem dX6_spread_50 : decode cX6_spread 50 = .ok (.lsub, 1) := by decide +kernel
theorem dX6_spread_51 : decode cX6_spread 51 = .ok (.invokestatic 154, 3) := by decide +kernel
theorem dX6_spread_54 : decode cX6_spread 54 = .ok (.goto 4, 3) := by decide +kernel
theorem dX6_spread_57 : decode cX6_spread 57 = .ok (.lconst 0, 1) := by decide +kernel
theorem dX6_spread_58 : decode cX6_spread 58 = .ok (.ladd, 1) := by decide +kernel
theorem dX6_spread_59 : decode cX6_spread 59 = .ok (.lstore_n 2, 1) := by decide +kernel
theorem dX6_spread_60 : decode cX6_spread 60 = .ok (.iinc 4 1, 3) := by decide +kernel
theorem dX6_spread_63 : decode cX6_spread 63 = .ok (.goto (-58), 3) := by decide +kernel
theorem dX6_spread_66 : decode cX6_spread 66 = .ok (.lload_n 2, 1) := by decide +kernel
theorem dX6_spread_67 : decode cX6_spread 67 = .ok (.aload_n 0, 1) := by decide +kernel
theorem dX6_spread_68 : decode cX6_spread 68 = .ok (.invokevirtual 194, 3) := by decide +kernel
theorem dX6_spread_71 : decode cX6_spread 71 = .ok (.i2l, 1) := by decide +kernel
theorem dX6_spread_72 : decode cX6_spread 72 = .ok (.lconst 1, 1) := by decide +kernel
theorem dX6_spread_73 : decode cX6_spread 73 = .ok (.lsub, 1) := by decide +kernel
theorem dX6_spread_74 : decode cX6_spread 74 = .ok (.ldiv, 1) := by decide +kernel
theorem dX6_spread_75 : decode cX6_spread 75 = .ok (.lreturn, 1) := by decide +kernel
theorem dX6_removes_0 : decode cX6_removes 0 = .ok (.iconst (-1), 1) := by decide +kernel
theorem dX6_removes_1 : decode cX6_removes 1 = .ok (.istore_n 1, 1) := by decide +kernel
theorem dX6_removes_2 : decode cX6_removes 2 = .ok (.lconst 0, 1) := by decide +kernel
theorem dX6_removes_3 : decode cX6_removes 3 = .ok (.lstore_n 2, 1) := by decide +kernel
theorem dX6_removes_4 : decode cX6_removes 4 = .ok (.iconst 1, 1) := by decide +kernel
theorem dX6_removes_5 : decode cX6_removes 5 = .ok (.istore 4, 2) := by decide +kernel
theorem dX6_removes_7 : decode cX6_removes 7 = .ok (.iconst 0, 1) := by decide +kernel
theorem dX6_removes_8 : decode cX6_removes 8 = .ok (.istore 5, 2) := by decide +kernel
theorem dX6_removes_10 : decode cX6_removes 10 = .ok (.iload 5, 2) := by decide +kernel
theorem dX6_removes_12 : decode cX6_removes 12 = .ok (.bipush 8, 2) := by decide +kernel
theorem dX6_removes_14 : decode cX6_removes 14 = .ok (.if_icmp .ge 76, 3) := by decide +kernel
theorem dX6_removes_17 : decode cX6_removes 17 = .ok (.aload_n 0, 1) := by decide +kernel
theorem dX6_removes_18 : decode cX6_removes 18 = .ok (.getfield 46, 3) := by decide +kernel
theorem dX6_removes_21 : decode cX6_removes 21 = .ok (.iload 5, 2) := by decide +kernel
theorem dX6_removes_23 : decode cX6_removes 23 = .ok (.baload, 1) := by decide +kernel
theorem dX6_removes_24 : decode cX6_removes 24 = .ok (.ifCond .eq 60, 3) := by decide +kernel
theorem dX6_removes_27 : decode cX6_removes 27 = .ok (.iload_n 1, 1) := by decide +kernel
theorem dX6_removes_28 : decode cX6_removes 28 = .ok (.iconst (-1), 1) := by decide +kernel
theorem dX6_removes_29 : decode cX6_removes 29 = .ok (.if_icmp .eq 18, 3) := by decide +kernel
theorem dX6_removes_32 : decode cX6_removes 32 = .ok (.aload_n 0, 1) := by decide +kernel
theorem dX6_removes_33 : decode cX6_removes 33 = .ok (.iload 5, 2) := by decide +kernel
theorem dX6_removes_35 : decode cX6_removes 35 = .ok (.invokevirtual 198, 3) := by decide +kernel
theorem dX6_removes_38 : decode cX6_removes 38 = .ok (.aload_n 0, 1) := by decide +kernel
theorem dX6_removes_39 : decode cX6_removes 39 = .ok (.iload_n 1, 1) := by decide +kernel
theorem dX6_removes_40 : decode cX6_removes 40 = .ok (.invokevirtual 198, 3) := by decide +kernel
theorem dX6_removes_43 : decode cX6_removes 43 = .ok (.lcmp, 1) := by decide +kernel
theorem dX6_removes_44 : decode cX6_removes 44 = .ok (.ifCond .lt 8, 3) := by decide +kernel
theorem dX6_removes_47 : decode cX6_removes 47 = .ok (.iload 5, 2) := by decide +kernel
theorem dX6_removes_49 : decode cX6_removes 49 = .ok (.goto 4, 3) := by decide +kernel
theorem dX6_removes_52 : decode cX6_removes 52 = .ok (.iload_n 1, 1) := by decide +kernel
theorem dX6_removes_53 : decode cX6_removes 53 = .ok (.istore_n 1, 1) := by decide +kernel
theorem dX6_removes_54 : decode cX6_removes 54 = .ok (.iload 4, 2) := by decide +kernel
theorem dX6_removes_56 : decode cX6_removes 56 = .ok (.ifCond .ne 14, 3) := by decide +kernel
theorem dX6_removes_59 : decode cX6_removes 59 = .ok (.aload_n 0, 1) := by decide +kernel
theorem dX6_removes_60 : decode cX6_removes 60 = .ok (.iload 5, 2) := by decide +kernel
theorem dX6_removes_62 : decode cX6_removes 62 = .ok (.invokevirtual 157, 3) := by decide +kernel
theorem dX6_removes_65 : decode cX6_removes 65 = .ok (.lload_n 2, 1) := by decide +kernel
theorem dX6_removes_66 : decode cX6_removes 66 = .ok (.lcmp, 1) := by decide +kernel
theorem dX6_removes_67 : decode cX6_removes 67 = .ok (.ifCond .ge 12, 3) := by decide +kernel
theorem dX6_removes_70 : decode cX6_removes 70 = .ok (.aload_n 0, 1) := by decide +kernel
theorem dX6_removes_71 : decode cX6_removes 71 = .ok (.iload 5, 2) := by decide +kernel
theorem dX6_removes_73 : decode cX6_removes 73 = .ok (.invokevirtual 157, 3) := by decide +kernel
theorem dX6_removes_76 : decode cX6_removes 76 = .ok (.goto 4, 3) := by decide +kernel
theorem dX6_removes_79 : decode cX6_removes 79 = .ok (.lload_n 2, 1) := by decide +kernel
theorem dX6_removes_80 : decode cX6_removes 80 = .ok (.lstore_n 2, 1) := by decide +kernel
theorem dX6_removes_81 : decode cX6_removes 81 = .ok (.iconst 0, 1) := by decide +kernel
theorem dX6_removes_82 : decode cX6_removes 82 = .ok (.istore 4, 2) := by decide +kernel
theorem dX6_removes_84 : decode cX6_removes 84 = .ok (.iinc 5 1, 3) := by decide +kernel
theorem dX6_removes_87 : decode cX6_removes 87 = .ok (.goto (-77), 3) := by decide +kernel
theorem dX6_removes_90 : decode cX6_removes 90 = .ok (.aload_n 0, 1) := by decide +kernel
theorem dX6_removes_91 : decode cX6_removes 91 = .ok (.iload_n 1, 1) := by decide +kernel
theorem dX6_removes_92 : decode cX6_removes 92 = .ok (.invokevirtual 198, 3) := by decide +kernel
theorem dX6_removes_95 : decode cX6_removes 95 = .ok (.lload_n 2, 1) := by decide +kernel
theorem dX6_removes_96 : decode cX6_removes 96 = .ok (.lcmp, 1) := by decide +kernel
theorem dX6_removes_97 : decode cX6_removes 97 = .ok (.ifCond .le 7, 3) := by decide +kernel
theorem dX6_removes_100 : decode cX6_removes 100 = .ok (.iconst 1, 1) := by decide +kernel
theorem dX6_removes_101 : decode cX6_removes 101 = .ok (.goto 4, 3) := by decide +kernel
theorem dX6_removes_104 : decode cX6_removes 104 = .ok (.iconst 0, 1) := by decide +kernel
theorem dX6_removes_105 : decode cX6_removes 105 = .ok (.istore 5, 2) := by decide +kernel
theorem dX6_removes_107 : decode cX6_removes 107 = .ok (.iload 5, 2) := by decide +kernel
theorem dX6_removes_109 : decode cX6_removes 109 = .ok (.ifCond .eq 10, 3) := by decide +kernel
theorem dX6_removes_112 : decode cX6_removes 112 = .ok (.aload_n 0, 1) := by decide +kernel
theorem dX6_removes_113 : decode cX6_removes 113 = .ok (.getfield 46, 3) := by decide +kernel
theorem dX6_removes_116 : decode cX6_removes 116 = .ok (.iload_n 1, 1) := by decide +kernel
theorem dX6_removes_117 : decode cX6_removes 117 = .ok (.iconst 0, 1) := by decide +kernel
theorem dX6_removes_118 : decode cX6_removes 118 = .ok (.bastore, 1) := by decide +kernel
theorem dX6_removes_119 : decode cX6_removes 119 = .ok (.iload 5, 2) := by decide +kernel
theorem dX6_removes_121 : decode cX6_removes 121 = .ok (.ireturn, 1) := by decide +kernel
theorem dX6_select_0 : decode cX6_select 0 = .ok (.aload_n 0, 1) := by decide +kernel
theorem dX6_select_1 : decode cX6_select 1 = .ok (.invokevirtual 201, 3) := by decide +kernel
theorem dX6_select_4 : decode cX6_select 4 = .ok (.iconst 0, 1) := by decide +kernel
theorem dX6_select_5 : decode cX6_select 5 = .ok (.istore_n 1, 1) := by decide +kernel
theorem dX6_select_6 : decode cX6_select 6 = .ok (.iload_n 1, 1) := by decide +kernel
theorem dX6_select_7 : decode cX6_select 7 = .ok (.bipush 8, 2) := by decide +kernel
theorem dX6_select_9 : decode cX6_select 9 = .ok (.if_icmp .ge 21, 3) := by decide +kernel
theorem dX6_select_12 : decode cX6_select 12 = .ok (.aload_n 0, 1) := by decide +kernel
theorem dX6_select_13 : decode cX6_select 13 = .ok (.getfield 46, 3) := by decide +kernel
theorem dX6_select_16 : decode cX6_select 16 = .ok (.iload_n 1, 1) := by decide +kernel
theorem dX6_select_17 : decode cX6_select 17 = .ok (.aload_n 0, 1) := by decide +kernel
theorem dX6_select_18 : decode cX6_select 18 = .ok (.getfield 42, 3) := by decide +kernel
theorem dX6_select_21 : decode cX6_select 21 = .ok (.iload_n 1, 1) := by decide +kernel
theorem dX6_select_22 : decode cX6_select 22 = .ok (.baload, 1) := by decide +kernel
theorem dX6_select_23 : decode cX6_select 23 = .ok (.bastore, 1) := by decide +kernel
theorem dX6_select_24 : decode cX6_select 24 = .ok (.iinc 1 1, 3) := by decide +kernel
theorem dX6_select_27 : decode cX6_select 27 = .ok (.goto (-21), 3) := by decide +kernel
theorem dX6_select_30 : decode cX6_select 30 = .ok (.iconst 1, 1) := by decide +kernel
theorem dX6_select_31 : decode cX6_select 31 = .ok (.istore_n 1, 1) := by decide +kernel
theorem dX6_select_32 : decode cX6_select 32 = .ok (.iload_n 1, 1) := by decide +kernel
theorem dX6_select_33 : decode cX6_select 33 = .ok (.ifCond .eq 19, 3) := by decide +kernel
theorem dX6_select_36 : decode cX6_select 36 = .ok (.aload_n 0, 1) := by decide +kernel
theorem dX6_select_37 : decode cX6_select 37 = .ok (.invokevirtual 194, 3) := by decide +kernel
theorem dX6_select_40 : decode cX6_select 40 = .ok (.iconst 3, 1) := by decide +kernel
theorem dX6_select_41 : decode cX6_select 41 = .ok (.if_icmp .le 11, 3) := by decide +kernel
theorem dX6_select_44 : decode cX6_select 44 = .ok (.aload_n 0, 1) := by decide +kernel
theorem dX6_select_45 : decode cX6_select 45 = .ok (.invokevirtual 204, 3) := by decide +kernel
theorem dX6_select_48 : decode cX6_select 48 = .ok (.istore_n 1, 1) := by decide +kernel
theorem dX6_select_49 : decode cX6_select 49 = .ok (.goto (-17), 3) := by decide +kernel
theorem dX6_select_52 : decode cX6_select 52 = .ok (.return_, 1) := by decide +kernel
theorem dX6_set_0 : decode cX6_set 0 = .ok (.iconst 0, 1) := by decide +kernel
theorem dX6_set_1 : decode cX6_set 1 = .ok (.istore_n 1, 1) := by decide +kernel
theorem dX6_set_2 : decode cX6_set 2 = .ok (.iconst 0, 1) := by decide +kernel
theorem dX6_set_3 : decode cX6_set 3 = .ok (.istore_n 2, 1) := by decide +kernel
theorem dX6_set_4 : decode cX6_set 4 = .ok (.iload_n 2, 1) := by decide +kernel
theorem dX6_set_5 : decode cX6_set 5 = .ok (.bipush 8, 2) := by decide +kernel
theorem dX6_set_7 : decode cX6_set 7 = .ok (.if_icmp .ge 25, 3) := by decide +kernel
theorem dX6_set_10 : decode cX6_set 10 = .ok (.iload_n 1, 1) := by decide +kernel
theorem dX6_set_11 : decode cX6_set 11 = .ok (.aload_n 0, 1) := by decide +kernel
theorem dX6_set_12 : decode cX6_set 12 = .ok (.iload_n 2, 1) := by decide +kernel
theorem dX6_set_13 : decode cX6_set 13 = .ok (.baload, 1) := by decide +kernel
theorem dX6_set_14 : decode cX6_set 14 = .ok (.ifCond .eq 9, 3) := by decide +kernel
theorem dX6_set_17 : decode cX6_set 17 = .ok (.iconst 1, 1) := by decide +kernel
theorem dX6_set_18 : decode cX6_set 18 = .ok (.iload_n 2, 1) := by decide +kernel
theorem dX6_set_19 : decode cX6_set 19 = .ok (.ishl, 1) := by decide +kernel
theorem dX6_set_20 : decode cX6_set 20 = .ok (.goto 4, 3) := by decide +kernel
theorem dX6_set_23 : decode cX6_set 23 = .ok (.iconst 0, 1) := by decide +kernel
theorem dX6_set_24 : decode cX6_set 24 = .ok (.iadd, 1) := by decide +kernel
theorem dX6_set_25 : decode cX6_set 25 = .ok (.istore_n 1, 1) := by decide +kernel
theorem dX6_set_26 : decode cX6_set 26 = .ok (.iinc 2 1, 3) := by decide +kernel
theorem dX6_set_29 : decode cX6_set 29 = .ok (.goto (-25), 3) := by decide +kernel
theorem dX6_set_32 : decode cX6_set 32 = .ok (.iload_n 1, 1) := by decide +kernel
theorem dX6_set_33 : decode cX6_set 33 = .ok (.ireturn, 1) := by decide +kernel
theorem dX6_agreement_0 : decode cX6_agreement 0 = .ok (.aload_n 0, 1) := by decide +kernel
theorem dX6_agreement_1 : decode cX6_agreement 1 = .ok (.invokevirtual 201, 3) := by decide +kernel
theorem dX6_agreement_4 : decode cX6_agreement 4 = .ok (.aload_n 0, 1) := by decide +kernel
theorem dX6_agreement_5 : decode cX6_agreement 5 = .ok (.aload_n 0, 1) := by decide +kernel
theorem dX6_agreement_6 : decode cX6_agreement 6 = .ok (.getfield 181, 3) := by decide +kernel
theorem dX6_agreement_9 : decode cX6_agreement 9 = .ok (.invokevirtual 118, 3) := by decide +kernel
theorem dX6_agreement_12 : decode cX6_agreement 12 = .ok (.ireturn, 1) := by decide +kernel
theorem dX6_hasMajority_0 : decode cX6_hasMajority 0 = .ok (.aload_n 0, 1) := by decide +kernel
theorem dX6_hasMajority_1 : decode cX6_hasMajority 1 = .ok (.iconst 0, 1) := by decide +kernel
theorem dX6_hasMajority_2 : decode cX6_hasMajority 2 = .ok (.putfield 49, 3) := by decide +kernel
theorem dX6_hasMajority_5 : decode cX6_hasMajority 5 = .ok (.aload_n 0, 1) := by decide +kernel
theorem dX6_hasMajority_6 : decode cX6_hasMajority 6 = .ok (.invokevirtual 201, 3) := by decide +kernel
theorem dX6_hasMajority_9 : decode cX6_hasMajority 9 = .ok (.iconst 2, 1) := by decide +kernel
theorem dX6_hasMajority_10 : decode cX6_hasMajority 10 = .ok (.aload_n 0, 1) := by decide +kernel
theorem dX6_hasMajority_11 : decode cX6_hasMajority 11 = .ok (.getfield 181, 3) := by decide +kernel
theorem dX6_hasMajority_14 : decode cX6_hasMajority 14 = .ok (.imul, 1) := by decide +kernel
theorem dX6_hasMajority_15 : decode cX6_hasMajority 15 = .ok (.aload_n 0, 1) := by decide +kernel
theorem dX6_hasMajority_16 : decode cX6_hasMajority 16 = .ok (.getfield 178, 3) := by decide +kernel
theorem dX6_hasMajority_19 : decode cX6_hasMajority 19 = .ok (.if_icmp .le 7, 3) := by decide +kernel
theorem dX6_hasMajority_22 : decode cX6_hasMajority 22 = .ok (.iconst 1, 1) := by decide +kernel
theorem dX6_hasMajority_23 : decode cX6_hasMajority 23 = .ok (.goto 4, 3) := by decide +kernel
theorem dX6_hasMajority_26 : decode cX6_hasMajority 26 = .ok (.iconst 0, 1) := by decide +kernel
theorem dX6_hasMajority_27 : decode cX6_hasMajority 27 = .ok (.ireturn, 1) := by decide +kernel
theorem dX6_agreeing_0 : decode cX6_agreeing 0 = .ok (.aload_n 0, 1) := by decide +kernel
theorem dX6_agreeing_1 : decode cX6_agreeing 1 = .ok (.invokevirtual 201, 3) := by decide +kernel
theorem dX6_agreeing_4 : decode cX6_agreeing 4 = .ok (.aload_n 0, 1) := by decide +kernel
theorem dX6_agreeing_5 : decode cX6_agreeing 5 = .ok (.aload_n 0, 1) := by decide +kernel
theorem dX6_agreeing_6 : decode cX6_agreeing 6 = .ok (.getfield 42, 3) := by decide +kernel
theorem dX6_agreeing_9 : decode cX6_agreeing 9 = .ok (.invokestatic 208, 3) := by decide +kernel
theorem dX6_agreeing_12 : decode cX6_agreeing 12 = .ok (.invokevirtual 118, 3) := by decide +kernel
theorem dX6_agreeing_15 : decode cX6_agreeing 15 = .ok (.ireturn, 1) := by decide +kernel
theorem dX6_low_0 : decode cX6_low 0 = .ok (.aload_n 0, 1) := by decide +kernel
theorem dX6_low_1 : decode cX6_low 1 = .ok (.invokevirtual 201, 3) := by decide +kernel
theorem dX6_low_4 : decode cX6_low 4 = .ok (.aload_n 0, 1) := by decide +kernel
theorem dX6_low_5 : decode cX6_low 5 = .ok (.aload_n 0, 1) := by decide +kernel
theorem dX6_low_6 : decode cX6_low 6 = .ok (.getfield 178, 3) := by decide +kernel
theorem dX6_low_9 : decode cX6_low 9 = .ok (.ifCond .ne 7, 3) := by decide +kernel
theorem dX6_low_12 : decode cX6_low 12 = .ok (.iconst 1, 1) := by decide +kernel
theorem dX6_low_13 : decode cX6_low 13 = .ok (.goto 4, 3) := by decide +kernel
theorem dX6_low_16 : decode cX6_low 16 = .ok (.iconst 0, 1) := by decide +kernel
theorem dX6_low_17 : decode cX6_low 17 = .ok (.invokevirtual 70, 3) := by decide +kernel
theorem dX6_low_20 : decode cX6_low 20 = .ok (.ifCond .eq 7, 3) := by decide +kernel
theorem dX6_low_23 : decode cX6_low 23 = .ok (.lconst 0, 1) := by decide +kernel
theorem dX6_low_24 : decode cX6_low 24 = .ok (.goto 7, 3) := by decide +kernel
theorem dX6_low_27 : decode cX6_low 27 = .ok (.aload_n 0, 1) := by decide +kernel
theorem dX6_low_28 : decode cX6_low 28 = .ok (.getfield 188, 3) := by decide +kernel
theorem dX6_low_31 : decode cX6_low 31 = .ok (.lreturn, 1) := by decide +kernel
theorem dX6_high_0 : decode cX6_high 0 = .ok (.aload_n 0, 1) := by decide +kernel
theorem dX6_high_1 : decode cX6_high 1 = .ok (.invokevirtual 201, 3) := by decide +kernel
theorem dX6_high_4 : decode cX6_high 4 = .ok (.aload_n 0, 1) := by decide +kernel
theorem dX6_high_5 : decode cX6_high 5 = .ok (.aload_n 0, 1) := by decide +kernel
theorem dX6_high_6 : decode cX6_high 6 = .ok (.getfield 178, 3) := by decide +kernel
theorem dX6_high_9 : decode cX6_high 9 = .ok (.ifCond .ne 7, 3) := by decide +kernel
theorem dX6_high_12 : decode cX6_high 12 = .ok (.iconst 1, 1) := by decide +kernel
theorem dX6_high_13 : decode cX6_high 13 = .ok (.goto 4, 3) := by decide +kernel
theorem dX6_high_16 : decode cX6_high 16 = .ok (.iconst 0, 1) := by decide +kernel
theorem dX6_high_17 : decode cX6_high 17 = .ok (.invokevirtual 70, 3) := by decide +kernel
theorem dX6_high_20 : decode cX6_high 20 = .ok (.ifCond .eq 7, 3) := by decide +kernel
theorem dX6_high_23 : decode cX6_high 23 = .ok (.lconst 0, 1) := by decide +kernel
theorem dX6_high_24 : decode cX6_high 24 = .ok (.goto 7, 3) := by decide +kernel
theorem dX6_high_27 : decode cX6_high 27 = .ok (.aload_n 0, 1) := by decide +kernel
theorem dX6_high_28 : decode cX6_high 28 = .ok (.getfield 191, 3) := by decide +kernel
theorem dX6_high_31 : decode cX6_high 31 = .ok (.lreturn, 1) := by decide +kernel
theorem dX6_survivors_0 : decode cX6_survivors 0 = .ok (.aload_n 0, 1) := by decide +kernel
theorem dX6_survivors_1 : decode cX6_survivors 1 = .ok (.invokevirtual 212, 3) := by decide +kernel
theorem dX6_survivors_4 : decode cX6_survivors 4 = .ok (.aload_n 0, 1) := by decide +kernel
theorem dX6_survivors_5 : decode cX6_survivors 5 = .ok (.aload_n 0, 1) := by decide +kernel
theorem dX6_survivors_6 : decode cX6_survivors 6 = .ok (.getfield 46, 3) := by decide +kernel
theorem dX6_survivors_9 : decode cX6_survivors 9 = .ok (.invokestatic 208, 3) := by decide +kernel
theorem dX6_survivors_12 : decode cX6_survivors 12 = .ok (.invokevirtual 118, 3) := by decide +kernel
theorem dX6_survivors_15 : decode cX6_survivors 15 = .ok (.ireturn, 1) := by decide +kernel
theorem dX6_combined_0 : decode cX6_combined 0 = .ok (.lconst 0, 1) := by decide +kernel
theorem dX6_combined_1 : decode cX6_combined 1 = .ok (.lstore_n 1, 1) := by decide +kernel
theorem dX6_combined_2 : decode cX6_combined 2 = .ok (.lconst 0, 1) := by decide +kernel
theorem dX6_combined_3 : decode cX6_combined 3 = .ok (.lstore_n 3, 1) := by decide +kernel
theorem dX6_combined_4 : decode cX6_combined 4 = .ok (.iconst 0, 1) := by decide +kernel
theorem dX6_combined_5 : decode cX6_combined 5 = .ok (.istore 5, 2) := by decide +kernel
theorem dX6_combined_7 : decode cX6_combined 7 = .ok (.iload 5, 2) := by decide +kernel
theorem dX6_combined_9 : decode cX6_combined 9 = .ok (.bipush 8, 2) := by decide +kernel
theorem dX6_combined_11 : decode cX6_combined 11 = .ok (.if_icmp .ge 70, 3) := by decide +kernel
theorem dX6_combined_14 : decode cX6_combined 14 = .ok (.aload_n 0, 1) := by decide +kernel
theorem dX6_combined_15 : decode cX6_combined 15 = .ok (.getfield 46, 3) := by decide +kernel
theorem dX6_combined_18 : decode cX6_combined 18 = .ok (.iload 5, 2) := by decide +kernel
theorem dX6_combined_20 : decode cX6_combined 20 = .ok (.baload, 1) := by decide +kernel
theorem dX6_combined_21 : decode cX6_combined 21 = .ok (.ifCond .eq 54, 3) := by decide +kernel
theorem dX6_combined_24 : decode cX6_combined 24 = .ok (.ldc2_w 56, 3) := by decide +kernel
theorem dX6_combined_27 : decode cX6_combined 27 = .ok (.aload_n 0, 1) := by decide +kernel
theorem dX6_combined_28 : decode cX6_combined 28 = .ok (.iload 5, 2) := by decide +kernel
theorem dX6_combined_30 : decode cX6_combined 30 = .ok (.invokevirtual 165, 3) := by decide +kernel
theorem dX6_combined_33 : decode cX6_combined 33 = .ok (.lconst 1, 1) := by decide +kernel
theorem dX6_combined_34 : decode cX6_combined 34 = .ok (.ladd, 1) := by decide +kernel
theorem dX6_combined_35 : decode cX6_combined 35 = .ok (.ldiv, 1) := by decide +kernel
theorem dX6_combined_36 : decode cX6_combined 36 = .ok (.lstore 6, 2) := by decide +kernel
theorem dX6_combined_38 : decode cX6_combined 38 = .ok (.lload 6, 2) := by decide +kernel
theorem dX6_combined_40 : decode cX6_combined 40 = .ok (.lconst 1, 1) := by decide +kernel
theorem dX6_combined_41 : decode cX6_combined 41 = .ok (.lcmp, 1) := by decide +kernel
theorem dX6_combined_42 : decode cX6_combined 42 = .ok (.ifCond .ge 7, 3) := by decide +kernel
theorem dX6_combined_45 : decode cX6_combined 45 = .ok (.lconst 1, 1) := by decide +kernel
theorem dX6_combined_46 : decode cX6_combined 46 = .ok (.goto 5, 3) := by decide +kernel
theorem dX6_combined_49 : decode cX6_combined 49 = .ok (.lload 6, 2) := by decide +kernel
theorem dX6_combined_51 : decode cX6_combined 51 = .ok (.lstore 6, 2) := by decide +kernel
theorem dX6_combined_53 : decode cX6_combined 53 = .ok (.lload_n 1, 1) := by decide +kernel
theorem dX6_combined_54 : decode cX6_combined 54 = .ok (.lload 6, 2) := by decide +kernel
theorem dX6_combined_56 : decode cX6_combined 56 = .ok (.aload_n 0, 1) := by decide +kernel
theorem dX6_combined_57 : decode cX6_combined 57 = .ok (.getfield 32, 3) := by decide +kernel
theorem dX6_combined_60 : decode cX6_combined 60 = .ok (.aload_n 0, 1) := by decide +kernel
theorem dX6_combined_61 : decode cX6_combined 61 = .ok (.iload 5, 2) := by decide +kernel
theorem dX6_combined_63 : decode cX6_combined 63 = .ok (.invokevirtual 151, 3) := by decide +kernel
theorem dX6_combined_66 : decode cX6_combined 66 = .ok (.laload, 1) := by decide +kernel
theorem dX6_combined_67 : decode cX6_combined 67 = .ok (.lmul, 1) := by decide +kernel
theorem dX6_combined_68 : decode cX6_combined 68 = .ok (.ladd, 1) := by decide +kernel
theorem dX6_combined_69 : decode cX6_combined 69 = .ok (.lstore_n 1, 1) := by decide +kernel
theorem dX6_combined_70 : decode cX6_combined 70 = .ok (.lload_n 3, 1) := by decide +kernel
theorem dX6_combined_71 : decode cX6_combined 71 = .ok (.lload 6, 2) := by decide +kernel
theorem dX6_combined_73 : decode cX6_combined 73 = .ok (.ladd, 1) := by decide +kernel
theorem dX6_combined_74 : decode cX6_combined 74 = .ok (.lstore_n 3, 1) := by decide +kernel
theorem dX6_combined_75 : decode cX6_combined 75 = .ok (.iinc 5 1, 3) := by decide +kernel
theorem dX6_combined_78 : decode cX6_combined 78 = .ok (.goto (-71), 3) := by decide +kernel
theorem dX6_combined_81 : decode cX6_combined 81 = .ok (.lload_n 1, 1) := by decide +kernel
theorem dX6_combined_82 : decode cX6_combined 82 = .ok (.lload_n 3, 1) := by decide +kernel
theorem dX6_combined_83 : decode cX6_combined 83 = .ok (.invokestatic 58, 3) := by decide +kernel
theorem dX6_combined_86 : decode cX6_combined 86 = .ok (.lreturn, 1) := by decide +kernel
theorem dX6_combinedOffset_0 : decode cX6_combinedOffset 0 = .ok (.aload_n 0, 1) := by decide +kernel
theorem dX6_combinedOffset_1 : decode cX6_combinedOffset 1 = .ok (.invokevirtual 212, 3) := by decide +kernel
theorem dX6_combinedOffset_4 : decode cX6_combinedOffset 4 = .ok (.aload_n 0, 1) := by decide +kernel
theorem dX6_combinedOffset_5 : decode cX6_combinedOffset 5 = .ok (.aload_n 0, 1) := by decide +kernel
theorem dX6_combinedOffset_6 : decode cX6_combinedOffset 6 = .ok (.getfield 178, 3) := by decide +kernel
theorem dX6_combinedOffset_9 : decode cX6_combinedOffset 9 = .ok (.ifCond .ne 7, 3) := by decide +kernel
theorem dX6_combinedOffset_12 : decode cX6_combinedOffset 12 = .ok (.iconst 1, 1) := by decide +kernel
theorem dX6_combinedOffset_13 : decode cX6_combinedOffset 13 = .ok (.goto 4, 3) := by decide +kernel
theorem dX6_combinedOffset_16 : decode cX6_combinedOffset 16 = .ok (.iconst 0, 1) := by decide +kernel
theorem dX6_combinedOffset_17 : decode cX6_combinedOffset 17 = .ok (.invokevirtual 70, 3) := by decide +kernel
theorem dX6_combinedOffset_20 : decode cX6_combinedOffset 20 = .ok (.ifCond .eq 7, 3) := by decide +kernel
theorem dX6_combinedOffset_23 : decode cX6_combinedOffset 23 = .ok (.lconst 0, 1) := by decide +kernel
theorem dX6_combinedOffset_24 : decode cX6_combinedOffset 24 = .ok (.goto 7, 3) := by decide +kernel
theorem dX6_combinedOffset_27 : decode cX6_combinedOffset 27 = .ok (.aload_n 0, 1) := by decide +kernel
theorem dX6_combinedOffset_28 : decode cX6_combinedOffset 28 = .ok (.invokevirtual 215, 3) := by decide +kernel
theorem dX6_combinedOffset_31 : decode cX6_combinedOffset 31 = .ok (.lreturn, 1) := by decide +kernel
theorem dX6_leader_0 : decode cX6_leader 0 = .ok (.iconst (-1), 1) := by decide +kernel
theorem dX6_leader_1 : decode cX6_leader 1 = .ok (.istore_n 1, 1) := by decide +kernel
theorem dX6_leader_2 : decode cX6_leader 2 = .ok (.iconst 0, 1) := by decide +kernel
theorem dX6_leader_3 : decode cX6_leader 3 = .ok (.istore_n 2, 1) := by decide +kernel
theorem dX6_leader_4 : decode cX6_leader 4 = .ok (.iload_n 2, 1) := by decide +kernel
theorem dX6_leader_5 : decode cX6_leader 5 = .ok (.bipush 8, 2) := by decide +kernel
theorem dX6_leader_7 : decode cX6_leader 7 = .ok (.if_icmp .ge 83, 3) := by decide +kernel
theorem dX6_leader_10 : decode cX6_leader 10 = .ok (.aload_n 0, 1) := by decide +kernel
theorem dX6_leader_11 : decode cX6_leader 11 = .ok (.getfield 46, 3) := by decide +kernel
theorem dX6_leader_14 : decode cX6_leader 14 = .ok (.iload_n 2, 1) := by decide +kernel
theorem dX6_leader_15 : decode cX6_leader 15 = .ok (.baload, 1) := by decide +kernel
theorem dX6_leader_16 : decode cX6_leader 16 = .ok (.ifCond .eq 68, 3) := by decide +kernel
theorem dX6_leader_19 : decode cX6_leader 19 = .ok (.iload_n 1, 1) := by decide +kernel
theorem dX6_leader_20 : decode cX6_leader 20 = .ok (.iconst (-1), 1) := by decide +kernel
theorem dX6_leader_21 : decode cX6_leader 21 = .ok (.if_icmp .eq 47, 3) := by decide +kernel
theorem dX6_leader_24 : decode cX6_leader 24 = .ok (.aload_n 0, 1) := by decide +kernel
theorem dX6_leader_25 : decode cX6_leader 25 = .ok (.getfield 17, 3) := by decide +kernel
theorem dX6_leader_28 : decode cX6_leader 28 = .ok (.iload_n 2, 1) := by decide +kernel
theorem dX6_leader_29 : decode cX6_leader 29 = .ok (.iaload, 1) := by decide +kernel
theorem dX6_leader_30 : decode cX6_leader 30 = .ok (.aload_n 0, 1) := by decide +kernel
theorem dX6_leader_31 : decode cX6_leader 31 = .ok (.getfield 17, 3) := by decide +kernel
theorem dX6_leader_34 : decode cX6_leader 34 = .ok (.iload_n 1, 1) := by decide +kernel
theorem dX6_leader_35 : decode cX6_leader 35 = .ok (.iaload, 1) := by decide +kernel
theorem dX6_leader_36 : decode cX6_leader 36 = .ok (.if_icmp .lt 32, 3) := by decide +kernel
theorem dX6_leader_39 : decode cX6_leader 39 = .ok (.aload_n 0, 1) := by decide +kernel
theorem dX6_leader_40 : decode cX6_leader 40 = .ok (.getfield 17, 3) := by decide +kernel
theorem dX6_leader_43 : decode cX6_leader 43 = .ok (.iload_n 2, 1) := by decide +kernel
theorem dX6_leader_44 : decode cX6_leader 44 = .ok (.iaload, 1) := by decide +kernel
theorem dX6_leader_45 : decode cX6_leader 45 = .ok (.aload_n 0, 1) := by decide +kernel
theorem dX6_leader_46 : decode cX6_leader 46 = .ok (.getfield 17, 3) := by decide +kernel
theorem dX6_leader_49 : decode cX6_leader 49 = .ok (.iload_n 1, 1) := by decide +kernel
theorem dX6_leader_50 : decode cX6_leader 50 = .ok (.iaload, 1) := by decide +kernel
theorem dX6_leader_51 : decode cX6_leader 51 = .ok (.if_icmp .ne 21, 3) := by decide +kernel
theorem dX6_leader_54 : decode cX6_leader 54 = .ok (.aload_n 0, 1) := by decide +kernel
theorem dX6_leader_55 : decode cX6_leader 55 = .ok (.iload_n 2, 1) := by decide +kernel
theorem dX6_leader_56 : decode cX6_leader 56 = .ok (.invokevirtual 165, 3) := by decide +kernel
theorem dX6_leader_59 : decode cX6_leader 59 = .ok (.aload_n 0, 1) := by decide +kernel
theorem dX6_leader_60 : decode cX6_leader 60 = .ok (.iload_n 1, 1) := by decide +kernel
theorem dX6_leader_61 : decode cX6_leader 61 = .ok (.invokevirtual 165, 3) := by decide +kernel
theorem dX6_leader_64 : decode cX6_leader 64 = .ok (.lcmp, 1) := by decide +kernel
theorem dX6_leader_65 : decode cX6_leader 65 = .ok (.ifCond .ge 7, 3) := by decide +kernel
theorem dX6_leader_68 : decode cX6_leader 68 = .ok (.iconst 1, 1) := by decide +kernel
theorem dX6_leader_69 : decode cX6_leader 69 = .ok (.goto 4, 3) := by decide +kernel
theorem dX6_leader_72 : decode cX6_leader 72 = .ok (.iconst 0, 1) := by decide +kernel
theorem dX6_leader_73 : decode cX6_leader 73 = .ok (.istore_n 3, 1) := by decide +kernel
theorem dX6_leader_74 : decode cX6_leader 74 = .ok (.iload_n 3, 1) := by decide +kernel
theorem dX6_leader_75 : decode cX6_leader 75 = .ok (.ifCond .eq 7, 3) := by decide +kernel
theorem dX6_leader_78 : decode cX6_leader 78 = .ok (.iload_n 2, 1) := by decide +kernel
theorem dX6_leader_79 : decode cX6_leader 79 = .ok (.goto 4, 3) := by decide +kernel
theorem dX6_leader_82 : decode cX6_leader 82 = .ok (.iload_n 1, 1) := by decide +kernel
theorem dX6_leader_83 : decode cX6_leader 83 = .ok (.istore_n 1, 1) := by decide +kernel
theorem dX6_leader_84 : decode cX6_leader 84 = .ok (.iinc 2 1, 3) := by decide +kernel
theorem dX6_leader_87 : decode cX6_leader 87 = .ok (.goto (-83), 3) := by decide +kernel
theorem dX6_leader_90 : decode cX6_leader 90 = .ok (.iload_n 1, 1) := by decide +kernel
theorem dX6_leader_91 : decode cX6_leader 91 = .ok (.ireturn, 1) := by decide +kernel
theorem dX6_peer_0 : decode cX6_peer 0 = .ok (.aload_n 0, 1) := by decide +kernel
theorem dX6_peer_1 : decode cX6_peer 1 = .ok (.invokevirtual 212, 3) := by decide +kernel
theorem dX6_peer_4 : decode cX6_peer 4 = .ok (.aload_n 0, 1) := by decide +kernel
theorem dX6_peer_5 : decode cX6_peer 5 = .ok (.aload_n 0, 1) := by decide +kernel
theorem dX6_peer_6 : decode cX6_peer 6 = .ok (.invokevirtual 218, 3) := by decide +kernel
theorem dX6_peer_9 : decode cX6_peer 9 = .ok (.invokevirtual 118, 3) := by decide +kernel
theorem dX6_peer_12 : decode cX6_peer 12 = .ok (.ireturn, 1) := by decide +kernel
theorem dX6_held_0 : decode cX6_held 0 = .ok (.lload_n 0, 1) := by decide +kernel
theorem dX6_held_1 : decode cX6_held 1 = .ok (.ldc2_w 98, 3) := by decide +kernel
theorem dX6_held_4 : decode cX6_held 4 = .ok (.lcmp, 1) := by decide +kernel
theorem dX6_held_5 : decode cX6_held 5 = .ok (.ifCond .le 9, 3) := by decide +kernel
theorem dX6_held_8 : decode cX6_held 8 = .ok (.sipush 500, 3) := by decide +kernel
theorem dX6_held_11 : decode cX6_held 11 = .ok (.goto 19, 3) := by decide +kernel
theorem dX6_held_14 : decode cX6_held 14 = .ok (.lload_n 0, 1) := by decide +kernel
theorem dX6_held_15 : decode cX6_held 15 = .ok (.ldc2_w 221, 3) := by decide +kernel
theorem dX6_held_18 : decode cX6_held 18 = .ok (.lcmp, 1) := by decide +kernel
theorem dX6_held_19 : decode cX6_held 19 = .ok (.ifCond .ge 9, 3) := by decide +kernel
theorem dX6_held_22 : decode cX6_held 22 = .ok (.sipush (-500), 3) := by decide +kernel
theorem dX6_held_25 : decode cX6_held 25 = .ok (.goto 5, 3) := by decide +kernel
theorem dX6_held_28 : decode cX6_held 28 = .ok (.lload_n 0, 1) := by decide +kernel
theorem dX6_held_29 : decode cX6_held 29 = .ok (.l2i, 1) := by decide +kernel
theorem dX6_held_30 : decode cX6_held 30 = .ok (.ireturn, 1) := by decide +kernel
theorem dX6_synchronize_0 : decode cX6_synchronize 0 = .ok (.aload_n 0, 1) := by decide +kernel
theorem dX6_synchronize_1 : decode cX6_synchronize 1 = .ok (.invokevirtual 212, 3) := by decide +kernel
theorem dX6_synchronize_4 : decode cX6_synchronize 4 = .ok (.aload_n 0, 1) := by decide +kernel
theorem dX6_synchronize_5 : decode cX6_synchronize 5 = .ok (.iconst 2, 1) := by decide +kernel
theorem dX6_synchronize_6 : decode cX6_synchronize 6 = .ok (.aload_n 0, 1) := by decide +kernel
theorem dX6_synchronize_7 : decode cX6_synchronize 7 = .ok (.getfield 181, 3) := by decide +kernel
theorem dX6_synchronize_10 : decode cX6_synchronize 10 = .ok (.imul, 1) := by decide +kernel
theorem dX6_synchronize_11 : decode cX6_synchronize 11 = .ok (.aload_n 0, 1) := by decide +kernel
theorem dX6_synchronize_12 : decode cX6_synchronize 12 = .ok (.getfield 178, 3) := by decide +kernel
theorem dX6_synchronize_15 : decode cX6_synchronize 15 = .ok (.if_icmp .le 7, 3) := by decide +kernel
theorem dX6_synchronize_18 : decode cX6_synchronize 18 = .ok (.iconst 0, 1) := by decide +kernel
theorem dX6_synchronize_19 : decode cX6_synchronize 19 = .ok (.goto 4, 3) := by decide +kernel
theorem dX6_synchronize_22 : decode cX6_synchronize 22 = .ok (.iconst 1, 1) := by decide +kernel
theorem dX6_synchronize_23 : decode cX6_synchronize 23 = .ok (.invokevirtual 70, 3) := by decide +kernel
theorem dX6_synchronize_26 : decode cX6_synchronize 26 = .ok (.ifCond .eq 5, 3) := by decide +kernel
theorem dX6_synchronize_29 : decode cX6_synchronize 29 = .ok (.iconst 0, 1) := by decide +kernel
theorem dX6_synchronize_30 : decode cX6_synchronize 30 = .ok (.ireturn, 1) := by decide +kernel
theorem dX6_synchronize_31 : decode cX6_synchronize 31 = .ok (.aload_n 0, 1) := by decide +kernel
theorem dX6_synchronize_32 : decode cX6_synchronize 32 = .ok (.invokevirtual 215, 3) := by decide +kernel
theorem dX6_synchronize_35 : decode cX6_synchronize 35 = .ok (.lstore_n 1, 1) := by decide +kernel
theorem dX6_synchronize_36 : decode cX6_synchronize 36 = .ok (.aload_n 0, 1) := by decide +kernel
theorem dX6_synchronize_37 : decode cX6_synchronize 37 = .ok (.invokevirtual 106, 3) := by decide +kernel
theorem dX6_synchronize_40 : decode cX6_synchronize 40 = .ok (.aload_n 0, 1) := by decide +kernel
theorem dX6_synchronize_41 : decode cX6_synchronize 41 = .ok (.getfield 92, 3) := by decide +kernel
theorem dX6_synchronize_44 : decode cX6_synchronize 44 = .ok (.lsub, 1) := by decide +kernel
theorem dX6_synchronize_45 : decode cX6_synchronize 45 = .ok (.lstore_n 3, 1) := by decide +kernel
theorem dX6_synchronize_46 : decode cX6_synchronize 46 = .ok (.aload_n 0, 1) := by decide +kernel
theorem dX6_synchronize_47 : decode cX6_synchronize 47 = .ok (.getfield 89, 3) := by decide +kernel
theorem dX6_synchronize_50 : decode cX6_synchronize 50 = .ok (.ifCond .le 33, 3) := by decide +kernel
theorem dX6_synchronize_53 : decode cX6_synchronize 53 = .ok (.lload_n 3, 1) := by decide +kernel
theorem dX6_synchronize_54 : decode cX6_synchronize 54 = .ok (.lconst 0, 1) := by decide +kernel
theorem dX6_synchronize_55 : decode cX6_synchronize 55 = .ok (.lcmp, 1) := by decide +kernel
theorem dX6_synchronize_56 : decode cX6_synchronize 56 = .ok (.ifCond .le 27, 3) := by decide +kernel
theorem dX6_synchronize_59 : decode cX6_synchronize 59 = .ok (.aload_n 0, 1) := by decide +kernel
theorem dX6_synchronize_60 : decode cX6_synchronize 60 = .ok (.aload_n 0, 1) := by decide +kernel
theorem dX6_synchronize_61 : decode cX6_synchronize 61 = .ok (.getfield 83, 3) := by decide +kernel
theorem dX6_synchronize_64 : decode cX6_synchronize 64 = .ok (.i2l, 1) := by decide +kernel
theorem dX6_synchronize_65 : decode cX6_synchronize 65 = .ok (.lload_n 1, 1) := by decide +kernel
theorem dX6_synchronize_66 : decode cX6_synchronize 66 = .ok (.ldc2_w 56, 3) := by decide +kernel
theorem dX6_synchronize_69 : decode cX6_synchronize 69 = .ok (.lmul, 1) := by decide +kernel
theorem dX6_synchronize_70 : decode cX6_synchronize 70 = .ok (.lload_n 3, 1) := by decide +kernel
theorem dX6_synchronize_71 : decode cX6_synchronize 71 = .ok (.ldiv, 1) := by decide +kernel
theorem dX6_synchronize_72 : decode cX6_synchronize 72 = .ok (.ldc2_w 223, 3) := by decide +kernel
theorem dX6_synchronize_75 : decode cX6_synchronize 75 = .ok (.ldiv, 1) := by decide +kernel
theorem dX6_synchronize_76 : decode cX6_synchronize 76 = .ok (.ladd, 1) := by decide +kernel
theorem dX6_synchronize_77 : decode cX6_synchronize 77 = .ok (.invokestatic 225, 3) := by decide +kernel
theorem dX6_synchronize_80 : decode cX6_synchronize 80 = .ok (.putfield 83, 3) := by decide +kernel
theorem dX6_synchronize_83 : decode cX6_synchronize 83 = .ok (.lload_n 1, 1) := by decide +kernel
theorem dX6_synchronize_84 : decode cX6_synchronize 84 = .ok (.ldc2_w 228, 3) := by decide +kernel
theorem dX6_synchronize_87 : decode cX6_synchronize 87 = .ok (.lcmp, 1) := by decide +kernel
theorem dX6_synchronize_88 : decode cX6_synchronize 88 = .ok (.ifCond .le 7, 3) := by decide +kernel
theorem dX6_synchronize_91 : decode cX6_synchronize 91 = .ok (.iconst 1, 1) := by decide +kernel
theorem dX6_synchronize_92 : decode cX6_synchronize 92 = .ok (.goto 4, 3) := by decide +kernel
theorem dX6_synchronize_95 : decode cX6_synchronize 95 = .ok (.iconst 0, 1) := by decide +kernel
theorem dX6_synchronize_96 : decode cX6_synchronize 96 = .ok (.istore 5, 2) := by decide +kernel
theorem dX6_synchronize_98 : decode cX6_synchronize 98 = .ok (.aload_n 0, 1) := by decide +kernel
theorem dX6_synchronize_99 : decode cX6_synchronize 99 = .ok (.iload 5, 2) := by decide +kernel
theorem dX6_synchronize_101 : decode cX6_synchronize 101 = .ok (.ifCond .eq 7, 3) := by decide +kernel
theorem dX6_synchronize_104 : decode cX6_synchronize 104 = .ok (.lconst 0, 1) := by decide +kernel
theorem dX6_synchronize_105 : decode cX6_synchronize 105 = .ok (.goto 8, 3) := by decide +kernel
theorem dX6_synchronize_108 : decode cX6_synchronize 108 = .ok (.lload_n 1, 1) := by decide +kernel
theorem dX6_synchronize_109 : decode cX6_synchronize 109 = .ok (.ldc2_w 56, 3) := by decide +kernel
theorem dX6_synchronize_112 : decode cX6_synchronize 112 = .ok (.lmul, 1) := by decide +kernel
theorem dX6_synchronize_113 : decode cX6_synchronize 113 = .ok (.putfield 77, 3) := by decide +kernel
theorem dX6_synchronize_116 : decode cX6_synchronize 116 = .ok (.aload_n 0, 1) := by decide +kernel
theorem dX6_synchronize_117 : decode cX6_synchronize 117 = .ok (.dup, 1) := by decide +kernel
theorem dX6_synchronize_118 : decode cX6_synchronize 118 = .ok (.getfield 52, 3) := by decide +kernel
theorem dX6_synchronize_121 : decode cX6_synchronize 121 = .ok (.iload 5, 2) := by decide +kernel
theorem dX6_synchronize_123 : decode cX6_synchronize 123 = .ok (.ifCond .eq 11, 3) := by decide +kernel
theorem dX6_synchronize_126 : decode cX6_synchronize 126 = .ok (.lload_n 1, 1) := by decide +kernel
theorem dX6_synchronize_127 : decode cX6_synchronize 127 = .ok (.ldc2_w 56, 3) := by decide +kernel
theorem dX6_synchronize_130 : decode cX6_synchronize 130 = .ok (.lmul, 1) := by decide +kernel
theorem dX6_synchronize_131 : decode cX6_synchronize 131 = .ok (.goto 4, 3) := by decide +kernel
theorem dX6_synchronize_134 : decode cX6_synchronize 134 = .ok (.lconst 0, 1) := by decide +kernel
theorem dX6_synchronize_135 : decode cX6_synchronize 135 = .ok (.ladd, 1) := by decide +kernel
theorem dX6_synchronize_136 : decode cX6_synchronize 136 = .ok (.putfield 52, 3) := by decide +kernel
theorem dX6_synchronize_139 : decode cX6_synchronize 139 = .ok (.aload_n 0, 1) := by decide +kernel
theorem dX6_synchronize_140 : decode cX6_synchronize 140 = .ok (.dup, 1) := by decide +kernel
theorem dX6_synchronize_141 : decode cX6_synchronize 141 = .ok (.getfield 86, 3) := by decide +kernel
theorem dX6_synchronize_144 : decode cX6_synchronize 144 = .ok (.iload 5, 2) := by decide +kernel
theorem dX6_synchronize_146 : decode cX6_synchronize 146 = .ok (.ifCond .eq 7, 3) := by decide +kernel
theorem dX6_synchronize_149 : decode cX6_synchronize 149 = .ok (.iconst 1, 1) := by decide +kernel
theorem dX6_synchronize_150 : decode cX6_synchronize 150 = .ok (.goto 4, 3) := by decide +kernel
theorem dX6_synchronize_153 : decode cX6_synchronize 153 = .ok (.iconst 0, 1) := by decide +kernel
theorem dX6_synchronize_154 : decode cX6_synchronize 154 = .ok (.iadd, 1) := by decide +kernel
theorem dX6_synchronize_155 : decode cX6_synchronize 155 = .ok (.putfield 86, 3) := by decide +kernel
theorem dX6_synchronize_158 : decode cX6_synchronize 158 = .ok (.aload_n 0, 1) := by decide +kernel
theorem dX6_synchronize_159 : decode cX6_synchronize 159 = .ok (.dup, 1) := by decide +kernel
theorem dX6_synchronize_160 : decode cX6_synchronize 160 = .ok (.getfield 89, 3) := by decide +kernel
theorem dX6_synchronize_163 : decode cX6_synchronize 163 = .ok (.iconst 1, 1) := by decide +kernel
theorem dX6_synchronize_164 : decode cX6_synchronize 164 = .ok (.iadd, 1) := by decide +kernel
theorem dX6_synchronize_165 : decode cX6_synchronize 165 = .ok (.putfield 89, 3) := by decide +kernel
theorem dX6_synchronize_168 : decode cX6_synchronize 168 = .ok (.aload_n 0, 1) := by decide +kernel
theorem dX6_synchronize_169 : decode cX6_synchronize 169 = .ok (.aload_n 0, 1) := by decide +kernel
theorem dX6_synchronize_170 : decode cX6_synchronize 170 = .ok (.invokevirtual 106, 3) := by decide +kernel
theorem dX6_synchronize_173 : decode cX6_synchronize 173 = .ok (.putfield 92, 3) := by decide +kernel
theorem dX6_synchronize_176 : decode cX6_synchronize 176 = .ok (.aload_n 0, 1) := by decide +kernel
theorem dX6_synchronize_177 : decode cX6_synchronize 177 = .ok (.aload_n 0, 1) := by decide +kernel
theorem dX6_synchronize_178 : decode cX6_synchronize 178 = .ok (.getfield 17, 3) := by decide +kernel
theorem dX6_synchronize_181 : decode cX6_synchronize 181 = .ok (.aload_n 0, 1) := by decide +kernel
theorem dX6_synchronize_182 : decode cX6_synchronize 182 = .ok (.invokevirtual 218, 3) := by decide +kernel
theorem dX6_synchronize_185 : decode cX6_synchronize 185 = .ok (.iaload, 1) := by decide +kernel
theorem dX6_synchronize_186 : decode cX6_synchronize 186 = .ok (.iconst 1, 1) := by decide +kernel
theorem dX6_synchronize_187 : decode cX6_synchronize 187 = .ok (.iadd, 1) := by decide +kernel
theorem dX6_synchronize_188 : decode cX6_synchronize 188 = .ok (.putfield 7, 3) := by decide +kernel
theorem dX6_synchronize_191 : decode cX6_synchronize 191 = .ok (.iconst 0, 1) := by decide +kernel
theorem dX6_synchronize_192 : decode cX6_synchronize 192 = .ok (.istore 6, 2) := by decide +kernel
theorem dX6_synchronize_194 : decode cX6_synchronize 194 = .ok (.iload 6, 2) := by decide +kernel
theorem dX6_synchronize_196 : decode cX6_synchronize 196 = .ok (.bipush 8, 2) := by decide +kernel
theorem dX6_synchronize_198 : decode cX6_synchronize 198 = .ok (.if_icmp .ge 17, 3) := by decide +kernel
theorem dX6_synchronize_201 : decode cX6_synchronize 201 = .ok (.aload_n 0, 1) := by decide +kernel
theorem dX6_synchronize_202 : decode cX6_synchronize 202 = .ok (.getfield 29, 3) := by decide +kernel
theorem dX6_synchronize_205 : decode cX6_synchronize 205 = .ok (.iload 6, 2) := by decide +kernel
theorem dX6_synchronize_207 : decode cX6_synchronize 207 = .ok (.iconst 0, 1) := by decide +kernel
theorem dX6_synchronize_208 : decode cX6_synchronize 208 = .ok (.iastore, 1) := by decide +kernel
theorem dX6_synchronize_209 : decode cX6_synchronize 209 = .ok (.iinc 6 1, 3) := by decide +kernel
theorem dX6_synchronize_212 : decode cX6_synchronize 212 = .ok (.goto (-18), 3) := by decide +kernel
theorem dX6_synchronize_215 : decode cX6_synchronize 215 = .ok (.iload 5, 2) := by decide +kernel
theorem dX6_synchronize_217 : decode cX6_synchronize 217 = .ok (.ifCond .eq 7, 3) := by decide +kernel
theorem dX6_synchronize_220 : decode cX6_synchronize 220 = .ok (.iconst 1, 1) := by decide +kernel
theorem dX6_synchronize_221 : decode cX6_synchronize 221 = .ok (.goto 4, 3) := by decide +kernel
theorem dX6_synchronize_224 : decode cX6_synchronize 224 = .ok (.iconst 0, 1) := by decide +kernel
theorem dX6_synchronize_225 : decode cX6_synchronize 225 = .ok (.ireturn, 1) := by decide +kernel
theorem dX6_stratum_0 : decode cX6_stratum 0 = .ok (.aload_n 0, 1) := by decide +kernel
theorem dX6_stratum_1 : decode cX6_stratum 1 = .ok (.aload_n 0, 1) := by decide +kernel
theorem dX6_stratum_2 : decode cX6_stratum 2 = .ok (.getfield 7, 3) := by decide +kernel
theorem dX6_stratum_5 : decode cX6_stratum 5 = .ok (.invokevirtual 118, 3) := by decide +kernel
theorem dX6_stratum_8 : decode cX6_stratum 8 = .ok (.ireturn, 1) := by decide +kernel
theorem dX6_steps_0 : decode cX6_steps 0 = .ok (.aload_n 0, 1) := by decide +kernel
theorem dX6_steps_1 : decode cX6_steps 1 = .ok (.aload_n 0, 1) := by decide +kernel
theorem dX6_steps_2 : decode cX6_steps 2 = .ok (.getfield 86, 3) := by decide +kernel
theorem dX6_steps_5 : decode cX6_steps 5 = .ok (.invokevirtual 118, 3) := by decide +kernel
theorem dX6_steps_8 : decode cX6_steps 8 = .ok (.ireturn, 1) := by decide +kernel
theorem dX6_synchronizations_0 : decode cX6_synchronizations 0 = .ok (.aload_n 0, 1) := by decide +kernel
theorem dX6_synchronizations_1 : decode cX6_synchronizations 1 = .ok (.aload_n 0, 1) := by decide +kernel
theorem dX6_synchronizations_2 : decode cX6_synchronizations 2 = .ok (.getfield 89, 3) := by decide +kernel
theorem dX6_synchronizations_5 : decode cX6_synchronizations 5 = .ok (.invokevirtual 118, 3) := by decide +kernel
theorem dX6_synchronizations_8 : decode cX6_synchronizations 8 = .ok (.ireturn, 1) := by decide +kernel
theorem dJ6_bitCount_0f7a4_0 : decode cJ6_bitCount_0f7a4 0 = .ok (.iload_n 0, 1) := by decide +kernel
theorem dJ6_bitCount_0f7a4_1 : decode cJ6_bitCount_0f7a4 1 = .ok (.iload_n 0, 1) := by decide +kernel
theorem dJ6_bitCount_0f7a4_2 : decode cJ6_bitCount_0f7a4 2 = .ok (.iconst 1, 1) := by decide +kernel
theorem dJ6_bitCount_0f7a4_3 : decode cJ6_bitCount_0f7a4 3 = .ok (.iushr, 1) := by decide +kernel
theorem dJ6_bitCount_0f7a4_4 : decode cJ6_bitCount_0f7a4 4 = .ok (.ldc_w 265, 3) := by decide +kernel
theorem dJ6_bitCount_0f7a4_7 : decode cJ6_bitCount_0f7a4 7 = .ok (.iand, 1) := by decide +kernel
theorem dJ6_bitCount_0f7a4_8 : decode cJ6_bitCount_0f7a4 8 = .ok (.isub, 1) := by decide +kernel
theorem dJ6_bitCount_0f7a4_9 : decode cJ6_bitCount_0f7a4 9 = .ok (.istore_n 0, 1) := by decide +kernel
theorem dJ6_bitCount_0f7a4_10 : decode cJ6_bitCount_0f7a4 10 = .ok (.iload_n 0, 1) := by decide +kernel
theorem dJ6_bitCount_0f7a4_11 : decode cJ6_bitCount_0f7a4 11 = .ok (.ldc_w 266, 3) := by decide +kernel
theorem dJ6_bitCount_0f7a4_14 : decode cJ6_bitCount_0f7a4 14 = .ok (.iand, 1) := by decide +kernel
theorem dJ6_bitCount_0f7a4_15 : decode cJ6_bitCount_0f7a4 15 = .ok (.iload_n 0, 1) := by decide +kernel
theorem dJ6_bitCount_0f7a4_16 : decode cJ6_bitCount_0f7a4 16 = .ok (.iconst 2, 1) := by decide +kernel
theorem dJ6_bitCount_0f7a4_17 : decode cJ6_bitCount_0f7a4 17 = .ok (.iushr, 1) := by decide +kernel
theorem dJ6_bitCount_0f7a4_18 : decode cJ6_bitCount_0f7a4 18 = .ok (.ldc_w 266, 3) := by decide +kernel
theorem dJ6_bitCount_0f7a4_21 : decode cJ6_bitCount_0f7a4 21 = .ok (.iand, 1) := by decide +kernel
theorem dJ6_bitCount_0f7a4_22 : decode cJ6_bitCount_0f7a4 22 = .ok (.iadd, 1) := by decide +kernel
theorem dJ6_bitCount_0f7a4_23 : decode cJ6_bitCount_0f7a4 23 = .ok (.istore_n 0, 1) := by decide +kernel
theorem dJ6_bitCount_0f7a4_24 : decode cJ6_bitCount_0f7a4 24 = .ok (.iload_n 0, 1) := by decide +kernel
theorem dJ6_bitCount_0f7a4_25 : decode cJ6_bitCount_0f7a4 25 = .ok (.iload_n 0, 1) := by decide +kernel
theorem dJ6_bitCount_0f7a4_26 : decode cJ6_bitCount_0f7a4 26 = .ok (.iconst 4, 1) := by decide +kernel
theorem dJ6_bitCount_0f7a4_27 : decode cJ6_bitCount_0f7a4 27 = .ok (.iushr, 1) := by decide +kernel
theorem dJ6_bitCount_0f7a4_28 : decode cJ6_bitCount_0f7a4 28 = .ok (.iadd, 1) := by decide +kernel
theorem dJ6_bitCount_0f7a4_29 : decode cJ6_bitCount_0f7a4 29 = .ok (.ldc_w 267, 3) := by decide +kernel
theorem dJ6_bitCount_0f7a4_32 : decode cJ6_bitCount_0f7a4 32 = .ok (.iand, 1) := by decide +kernel
theorem dJ6_bitCount_0f7a4_33 : decode cJ6_bitCount_0f7a4 33 = .ok (.istore_n 0, 1) := by decide +kernel
theorem dJ6_bitCount_0f7a4_34 : decode cJ6_bitCount_0f7a4 34 = .ok (.iload_n 0, 1) := by decide +kernel
theorem dJ6_bitCount_0f7a4_35 : decode cJ6_bitCount_0f7a4 35 = .ok (.iload_n 0, 1) := by decide +kernel
theorem dJ6_bitCount_0f7a4_36 : decode cJ6_bitCount_0f7a4 36 = .ok (.bipush 8, 2) := by decide +kernel
theorem dJ6_bitCount_0f7a4_38 : decode cJ6_bitCount_0f7a4 38 = .ok (.iushr, 1) := by decide +kernel
theorem dJ6_bitCount_0f7a4_39 : decode cJ6_bitCount_0f7a4 39 = .ok (.iadd, 1) := by decide +kernel
theorem dJ6_bitCount_0f7a4_40 : decode cJ6_bitCount_0f7a4 40 = .ok (.istore_n 0, 1) := by decide +kernel
theorem dJ6_bitCount_0f7a4_41 : decode cJ6_bitCount_0f7a4 41 = .ok (.iload_n 0, 1) := by decide +kernel
theorem dJ6_bitCount_0f7a4_42 : decode cJ6_bitCount_0f7a4 42 = .ok (.iload_n 0, 1) := by decide +kernel
theorem dJ6_bitCount_0f7a4_43 : decode cJ6_bitCount_0f7a4 43 = .ok (.bipush 16, 2) := by decide +kernel
theorem dJ6_bitCount_0f7a4_45 : decode cJ6_bitCount_0f7a4 45 = .ok (.iushr, 1) := by decide +kernel
theorem dJ6_bitCount_0f7a4_46 : decode cJ6_bitCount_0f7a4 46 = .ok (.iadd, 1) := by decide +kernel
theorem dJ6_bitCount_0f7a4_47 : decode cJ6_bitCount_0f7a4 47 = .ok (.istore_n 0, 1) := by decide +kernel
theorem dJ6_bitCount_0f7a4_48 : decode cJ6_bitCount_0f7a4 48 = .ok (.iload_n 0, 1) := by decide +kernel
theorem dJ6_bitCount_0f7a4_49 : decode cJ6_bitCount_0f7a4 49 = .ok (.bipush 63, 2) := by decide +kernel
theorem dJ6_bitCount_0f7a4_51 : decode cJ6_bitCount_0f7a4 51 = .ok (.iand, 1) := by decide +kernel
theorem dJ6_bitCount_0f7a4_52 : decode cJ6_bitCount_0f7a4 52 = .ok (.ireturn, 1) := by decide +kernel
theorem dJ9_floorDiv_f86c9_0 : decode cJ9_floorDiv_f86c9 0 = .ok (.lload_n 0, 1) := by decide +kernel
theorem dJ9_floorDiv_f86c9_1 : decode cJ9_floorDiv_f86c9 1 = .ok (.lload_n 2, 1) := by decide +kernel
theorem dJ9_floorDiv_f86c9_2 : decode cJ9_floorDiv_f86c9 2 = .ok (.ldiv, 1) := by decide +kernel
theorem dJ9_floorDiv_f86c9_3 : decode cJ9_floorDiv_f86c9 3 = .ok (.lstore 4, 2) := by decide +kernel
theorem dJ9_floorDiv_f86c9_5 : decode cJ9_floorDiv_f86c9 5 = .ok (.lload_n 0, 1) := by decide +kernel
theorem dJ9_floorDiv_f86c9_6 : decode cJ9_floorDiv_f86c9 6 = .ok (.lload_n 2, 1) := by decide +kernel
theorem dJ9_floorDiv_f86c9_7 : decode cJ9_floorDiv_f86c9 7 = .ok (.lxor, 1) := by decide +kernel
theorem dJ9_floorDiv_f86c9_8 : decode cJ9_floorDiv_f86c9 8 = .ok (.lconst 0, 1) := by decide +kernel
theorem dJ9_floorDiv_f86c9_9 : decode cJ9_floorDiv_f86c9 9 = .ok (.lcmp, 1) := by decide +kernel
theorem dJ9_floorDiv_f86c9_10 : decode cJ9_floorDiv_f86c9 10 = .ok (.ifCond .ge 17, 3) := by decide +kernel
theorem dJ9_floorDiv_f86c9_13 : decode cJ9_floorDiv_f86c9 13 = .ok (.lload 4, 2) := by decide +kernel
theorem dJ9_floorDiv_f86c9_15 : decode cJ9_floorDiv_f86c9 15 = .ok (.lload_n 2, 1) := by decide +kernel
theorem dJ9_floorDiv_f86c9_16 : decode cJ9_floorDiv_f86c9 16 = .ok (.lmul, 1) := by decide +kernel
theorem dJ9_floorDiv_f86c9_17 : decode cJ9_floorDiv_f86c9 17 = .ok (.lload_n 0, 1) := by decide +kernel
theorem dJ9_floorDiv_f86c9_18 : decode cJ9_floorDiv_f86c9 18 = .ok (.lcmp, 1) := by decide +kernel
theorem dJ9_floorDiv_f86c9_19 : decode cJ9_floorDiv_f86c9 19 = .ok (.ifCond .eq 8, 3) := by decide +kernel
theorem dJ9_floorDiv_f86c9_22 : decode cJ9_floorDiv_f86c9 22 = .ok (.lload 4, 2) := by decide +kernel
theorem dJ9_floorDiv_f86c9_24 : decode cJ9_floorDiv_f86c9 24 = .ok (.lconst 1, 1) := by decide +kernel
theorem dJ9_floorDiv_f86c9_25 : decode cJ9_floorDiv_f86c9 25 = .ok (.lsub, 1) := by decide +kernel
theorem dJ9_floorDiv_f86c9_26 : decode cJ9_floorDiv_f86c9 26 = .ok (.lreturn, 1) := by decide +kernel
theorem dJ9_floorDiv_f86c9_27 : decode cJ9_floorDiv_f86c9 27 = .ok (.lload 4, 2) := by decide +kernel
theorem dJ9_floorDiv_f86c9_29 : decode cJ9_floorDiv_f86c9 29 = .ok (.lreturn, 1) := by decide +kernel
theorem dJ9_abs_067f4_0 : decode cJ9_abs_067f4 0 = .ok (.lload_n 0, 1) := by decide +kernel
theorem dJ9_abs_067f4_1 : decode cJ9_abs_067f4 1 = .ok (.lconst 0, 1) := by decide +kernel
theorem dJ9_abs_067f4_2 : decode cJ9_abs_067f4 2 = .ok (.lcmp, 1) := by decide +kernel
theorem dJ9_abs_067f4_3 : decode cJ9_abs_067f4 3 = .ok (.ifCond .ge 8, 3) := by decide +kernel
theorem dJ9_abs_067f4_6 : decode cJ9_abs_067f4 6 = .ok (.lload_n 0, 1) := by decide +kernel
theorem dJ9_abs_067f4_7 : decode cJ9_abs_067f4 7 = .ok (.lneg, 1) := by decide +kernel
theorem dJ9_abs_067f4_8 : decode cJ9_abs_067f4 8 = .ok (.goto 4, 3) := by decide +kernel
theorem dJ9_abs_067f4_11 : decode cJ9_abs_067f4 11 = .ok (.lload_n 0, 1) := by decide +kernel
theorem dJ9_abs_067f4_12 : decode cJ9_abs_067f4 12 = .ok (.lreturn, 1) := by decide +kernel
theorem dJ9_max_f86c9_0 : decode cJ9_max_f86c9 0 = .ok (.lload_n 0, 1) := by decide +kernel
theorem dJ9_max_f86c9_1 : decode cJ9_max_f86c9 1 = .ok (.lload_n 2, 1) := by decide +kernel
theorem dJ9_max_f86c9_2 : decode cJ9_max_f86c9 2 = .ok (.lcmp, 1) := by decide +kernel
theorem dJ9_max_f86c9_3 : decode cJ9_max_f86c9 3 = .ok (.ifCond .lt 7, 3) := by decide +kernel
theorem dJ9_max_f86c9_6 : decode cJ9_max_f86c9 6 = .ok (.lload_n 0, 1) := by decide +kernel
theorem dJ9_max_f86c9_7 : decode cJ9_max_f86c9 7 = .ok (.goto 4, 3) := by decide +kernel
theorem dJ9_max_f86c9_10 : decode cJ9_max_f86c9 10 = .ok (.lload_n 2, 1) := by decide +kernel
theorem dJ9_max_f86c9_11 : decode cJ9_max_f86c9 11 = .ok (.lreturn, 1) := by decide +kernel
theorem dJ9_min_7cf53_0 : decode cJ9_min_7cf53 0 = .ok (.iload_n 0, 1) := by decide +kernel
theorem dJ9_min_7cf53_1 : decode cJ9_min_7cf53 1 = .ok (.iload_n 1, 1) := by decide +kernel
theorem dJ9_min_7cf53_2 : decode cJ9_min_7cf53 2 = .ok (.if_icmp .gt 7, 3) := by decide +kernel
theorem dJ9_min_7cf53_5 : decode cJ9_min_7cf53 5 = .ok (.iload_n 0, 1) := by decide +kernel
theorem dJ9_min_7cf53_6 : decode cJ9_min_7cf53 6 = .ok (.goto 4, 3) := by decide +kernel
theorem dJ9_min_7cf53_9 : decode cJ9_min_7cf53 9 = .ok (.iload_n 1, 1) := by decide +kernel
theorem dJ9_min_7cf53_10 : decode cJ9_min_7cf53 10 = .ok (.ireturn, 1) := by decide +kernel
theorem dJ9_min_f86c9_0 : decode cJ9_min_f86c9 0 = .ok (.lload_n 0, 1) := by decide +kernel
theorem dJ9_min_f86c9_1 : decode cJ9_min_f86c9 1 = .ok (.lload_n 2, 1) := by decide +kernel
theorem dJ9_min_f86c9_2 : decode cJ9_min_f86c9 2 = .ok (.lcmp, 1) := by decide +kernel
theorem dJ9_min_f86c9_3 : decode cJ9_min_f86c9 3 = .ok (.ifCond .gt 7, 3) := by decide +kernel
theorem dJ9_min_f86c9_6 : decode cJ9_min_f86c9 6 = .ok (.lload_n 0, 1) := by decide +kernel
theorem dJ9_min_f86c9_7 : decode cJ9_min_f86c9 7 = .ok (.goto 4, 3) := by decide +kernel
theorem dJ9_min_f86c9_10 : decode cJ9_min_f86c9 10 = .ok (.lload_n 2, 1) := by decide +kernel
theorem dJ9_min_f86c9_11 : decode cJ9_min_f86c9 11 = .ok (.lreturn, 1) := by decide +kernel
theorem dL_restart_0 : decode cL_restart 0 = .ok (.aload_n 0, 1) := by decide +kernel
theorem dL_restart_1 : decode cL_restart 1 = .ok (.iload_n 1, 1) := by decide +kernel
theorem dL_restart_2 : decode cL_restart 2 = .ok (.invokevirtual 7, 3) := by decide +kernel
theorem dL_restart_5 : decode cL_restart 5 = .ok (.goto 6, 3) := by decide +kernel
theorem dL_restart_8 : decode cL_restart 8 = .ok (.astore_n 2, 1) := by decide +kernel
theorem dL_restart_9 : decode cL_restart 9 = .ok (.iconst 1, 1) := by decide +kernel
theorem dL_restart_10 : decode cL_restart 10 = .ok (.ireturn, 1) := by decide +kernel
theorem dL_restart_11 : decode cL_restart 11 = .ok (.iconst 0, 1) := by decide +kernel
theorem dL_restart_12 : decode cL_restart 12 = .ok (.ireturn, 1) := by decide +kernel
theorem dL_pass_0 : decode cL_pass 0 = .ok (.aload_n 2, 1) := by decide +kernel
theorem dL_pass_1 : decode cL_pass 1 = .ok (.iconst 0, 1) := by decide +kernel
theorem dL_pass_2 : decode cL_pass 2 = .ok (.aload_n 0, 1) := by decide +kernel
theorem dL_pass_3 : decode cL_pass 3 = .ok (.iload_n 1, 1) := by decide +kernel
theorem dL_pass_4 : decode cL_pass 4 = .ok (.invokevirtual 15, 3) := by decide +kernel
theorem dL_pass_7 : decode cL_pass 7 = .ok (.lastore, 1) := by decide +kernel
theorem dL_pass_8 : decode cL_pass 8 = .ok (.goto 9, 3) := by decide +kernel
theorem dL_pass_11 : decode cL_pass 11 = .ok (.astore_n 3, 1) := by decide +kernel
theorem dL_pass_12 : decode cL_pass 12 = .ok (.iconst 1, 1) := by decide +kernel
theorem dL_pass_13 : decode cL_pass 13 = .ok (.ireturn, 1) := by decide +kernel
theorem dL_pass_14 : decode cL_pass 14 = .ok (.astore_n 3, 1) := by decide +kernel
theorem dL_pass_15 : decode cL_pass 15 = .ok (.iconst 2, 1) := by decide +kernel
theorem dL_pass_16 : decode cL_pass 16 = .ok (.ireturn, 1) := by decide +kernel
theorem dL_pass_17 : decode cL_pass 17 = .ok (.iconst 0, 1) := by decide +kernel
theorem dL_pass_18 : decode cL_pass 18 = .ok (.ireturn, 1) := by decide +kernel
theorem dL_setDrift_0 : decode cL_setDrift 0 = .ok (.aload_n 2, 1) := by decide +kernel
theorem dL_setDrift_1 : decode cL_setDrift 1 = .ok (.iconst 0, 1) := by decide +kernel
theorem dL_setDrift_2 : decode cL_setDrift 2 = .ok (.aload_n 0, 1) := by decide +kernel
theorem dL_setDrift_3 : decode cL_setDrift 3 = .ok (.iload_n 1, 1) := by decide +kernel
theorem dL_setDrift_4 : decode cL_setDrift 4 = .ok (.invokevirtual 21, 3) := by decide +kernel
theorem dL_setDrift_7 : decode cL_setDrift 7 = .ok (.i2l, 1) := by decide +kernel
theorem dL_setDrift_8 : decode cL_setDrift 8 = .ok (.lastore, 1) := by decide +kernel
theorem dL_setDrift_9 : decode cL_setDrift 9 = .ok (.goto 6, 3) := by decide +kernel
theorem dL_setDrift_12 : decode cL_setDrift 12 = .ok (.astore_n 3, 1) := by decide +kernel
theorem dL_setDrift_13 : decode cL_setDrift 13 = .ok (.iconst 1, 1) := by decide +kernel
theorem dL_setDrift_14 : decode cL_setDrift 14 = .ok (.ireturn, 1) := by decide +kernel
theorem dL_setDrift_15 : decode cL_setDrift 15 = .ok (.iconst 0, 1) := by decide +kernel
theorem dL_setDrift_16 : decode cL_setDrift 16 = .ok (.ireturn, 1) := by decide +kernel
theorem dL_announceLeap_0 : decode cL_announceLeap 0 = .ok (.aload_n 3, 1) := by decide +kernel
theorem dL_announceLeap_1 : decode cL_announceLeap 1 = .ok (.iconst 0, 1) := by decide +kernel
theorem dL_announceLeap_2 : decode cL_announceLeap 2 = .ok (.aload_n 0, 1) := by decide +kernel
theorem dL_announceLeap_3 : decode cL_announceLeap 3 = .ok (.iload_n 1, 1) := by decide +kernel
theorem dL_announceLeap_4 : decode cL_announceLeap 4 = .ok (.iload_n 2, 1) := by decide +kernel
theorem dL_announceLeap_5 : decode cL_announceLeap 5 = .ok (.invokevirtual 25, 3) := by decide +kernel
theorem dL_announceLeap_8 : decode cL_announceLeap 8 = .ok (.lastore, 1) := by decide +kernel
theorem dL_announceLeap_9 : decode cL_announceLeap 9 = .ok (.goto 11, 3) := by decide +kernel
theorem dL_announceLeap_12 : decode cL_announceLeap 12 = .ok (.astore 4, 2) := by decide +kernel
theorem dL_announceLeap_14 : decode cL_announceLeap 14 = .ok (.iconst 1, 1) := by decide +kernel
theorem dL_announceLeap_15 : decode cL_announceLeap 15 = .ok (.ireturn, 1) := by decide +kernel
theorem dL_announceLeap_16 : decode cL_announceLeap 16 = .ok (.astore 4, 2) := by decide +kernel
theorem dL_announceLeap_18 : decode cL_announceLeap 18 = .ok (.iconst 2, 1) := by decide +kernel
theorem dL_announceLeap_19 : decode cL_announceLeap 19 = .ok (.ireturn, 1) := by decide +kernel
theorem dL_announceLeap_20 : decode cL_announceLeap 20 = .ok (.iconst 0, 1) := by decide +kernel
theorem dL_announceLeap_21 : decode cL_announceLeap 21 = .ok (.ireturn, 1) := by decide +kernel
theorem dL_addServer_0 : decode cL_addServer 0 = .ok (.aload 5, 2) := by decide +kernel
theorem dL_addServer_2 : decode cL_addServer 2 = .ok (.iconst 0, 1) := by decide +kernel
theorem dL_addServer_3 : decode cL_addServer 3 = .ok (.aload_n 0, 1) := by decide +kernel
theorem dL_addServer_4 : decode cL_addServer 4 = .ok (.iload_n 1, 1) := by decide +kernel
theorem dL_addServer_5 : decode cL_addServer 5 = .ok (.iload_n 2, 1) := by decide +kernel
theorem dL_addServer_6 : decode cL_addServer 6 = .ok (.iload_n 3, 1) := by decide +kernel
theorem dL_addServer_7 : decode cL_addServer 7 = .ok (.iload 4, 2) := by decide +kernel
theorem dL_addServer_9 : decode cL_addServer 9 = .ok (.invokevirtual 29, 3) := by decide +kernel
theorem dL_addServer_12 : decode cL_addServer 12 = .ok (.i2l, 1) := by decide +kernel
theorem dL_addServer_13 : decode cL_addServer 13 = .ok (.lastore, 1) := by decide +kernel
theorem dL_addServer_14 : decode cL_addServer 14 = .ok (.goto 11, 3) := by decide +kernel
theorem dL_addServer_17 : decode cL_addServer 17 = .ok (.astore 6, 2) := by decide +kernel
theorem dL_addServer_19 : decode cL_addServer 19 = .ok (.iconst 1, 1) := by decide +kernel
theorem dL_addServer_20 : decode cL_addServer 20 = .ok (.ireturn, 1) := by decide +kernel
theorem dL_addServer_21 : decode cL_addServer 21 = .ok (.astore 6, 2) := by decide +kernel
theorem dL_addServer_23 : decode cL_addServer 23 = .ok (.iconst 2, 1) := by decide +kernel
theorem dL_addServer_24 : decode cL_addServer 24 = .ok (.ireturn, 1) := by decide +kernel
theorem dL_addServer_25 : decode cL_addServer 25 = .ok (.iconst 0, 1) := by decide +kernel
theorem dL_addServer_26 : decode cL_addServer 26 = .ok (.ireturn, 1) := by decide +kernel
theorem dL_setError_0 : decode cL_setError 0 = .ok (.aload_n 3, 1) := by decide +kernel
theorem dL_setError_1 : decode cL_setError 1 = .ok (.iconst 0, 1) := by decide +kernel
theorem dL_setError_2 : decode cL_setError 2 = .ok (.aload_n 0, 1) := by decide +kernel
theorem dL_setError_3 : decode cL_setError 3 = .ok (.iload_n 1, 1) := by decide +kernel
theorem dL_setError_4 : decode cL_setError 4 = .ok (.iload_n 2, 1) := by decide +kernel
theorem dL_setError_5 : decode cL_setError 5 = .ok (.invokevirtual 33, 3) := by decide +kernel
theorem dL_setError_8 : decode cL_setError 8 = .ok (.i2l, 1) := by decide +kernel
theorem dL_setError_9 : decode cL_setError 9 = .ok (.lastore, 1) := by decide +kernel
theorem dL_setError_10 : decode cL_setError 10 = .ok (.goto 11, 3) := by decide +kernel
theorem dL_setError_13 : decode cL_setError 13 = .ok (.astore 4, 2) := by decide +kernel
theorem dL_setError_15 : decode cL_setError 15 = .ok (.iconst 1, 1) := by decide +kernel
theorem dL_setError_16 : decode cL_setError 16 = .ok (.ireturn, 1) := by decide +kernel
theorem dL_setError_17 : decode cL_setError 17 = .ok (.astore 4, 2) := by decide +kernel
theorem dL_setError_19 : decode cL_setError 19 = .ok (.iconst 2, 1) := by decide +kernel
theorem dL_setError_20 : decode cL_setError 20 = .ok (.ireturn, 1) := by decide +kernel
theorem dL_setError_21 : decode cL_setError 21 = .ok (.iconst 0, 1) := by decide +kernel
theorem dL_setError_22 : decode cL_setError 22 = .ok (.ireturn, 1) := by decide +kernel
theorem dL_exchange_0 : decode cL_exchange 0 = .ok (.aload 5, 2) := by decide +kernel
theorem dL_exchange_2 : decode cL_exchange 2 = .ok (.iconst 0, 1) := by decide +kernel
theorem dL_exchange_3 : decode cL_exchange 3 = .ok (.aload_n 0, 1) := by decide +kernel
theorem dL_exchange_4 : decode cL_exchange 4 = .ok (.iload_n 1, 1) := by decide +kernel
theorem dL_exchange_5 : decode cL_exchange 5 = .ok (.iload_n 2, 1) := by decide +kernel
theorem dL_exchange_6 : decode cL_exchange 6 = .ok (.iload_n 3, 1) := by decide +kernel
theorem dL_exchange_7 : decode cL_exchange 7 = .ok (.iload 4, 2) := by decide +kernel
theorem dL_exchange_9 : decode cL_exchange 9 = .ok (.invokevirtual 39, 3) := by decide +kernel
theorem dL_exchange_12 : decode cL_exchange 12 = .ok (.lastore, 1) := by decide +kernel
theorem dL_exchange_13 : decode cL_exchange 13 = .ok (.goto 15, 3) := by decide +kernel
theorem dL_exchange_16 : decode cL_exchange 16 = .ok (.astore 6, 2) := by decide +kernel
theorem dL_exchange_18 : decode cL_exchange 18 = .ok (.iconst 1, 1) := by decide +kernel
theorem dL_exchange_19 : decode cL_exchange 19 = .ok (.ireturn, 1) := by decide +kernel
theorem dL_exchange_20 : decode cL_exchange 20 = .ok (.astore 6, 2) := by decide +kernel
theorem dL_exchange_22 : decode cL_exchange 22 = .ok (.iconst 2, 1) := by decide +kernel
theorem dL_exchange_23 : decode cL_exchange 23 = .ok (.ireturn, 1) := by decide +kernel
theorem dL_exchange_24 : decode cL_exchange 24 = .ok (.astore 6, 2) := by decide +kernel
theorem dL_exchange_26 : decode cL_exchange 26 = .ok (.iconst 3, 1) := by decide +kernel
theorem dL_exchange_27 : decode cL_exchange 27 = .ok (.ireturn, 1) := by decide +kernel
theorem dL_exchange_28 : decode cL_exchange 28 = .ok (.iconst 0, 1) := by decide +kernel
theorem dL_exchange_29 : decode cL_exchange 29 = .ok (.ireturn, 1) := by decide +kernel
theorem dL_samples_0 : decode cL_samples 0 = .ok (.aload_n 2, 1) := by decide +kernel
theorem dL_samples_1 : decode cL_samples 1 = .ok (.iconst 0, 1) := by decide +kernel
theorem dL_samples_2 : decode cL_samples 2 = .ok (.aload_n 0, 1) := by decide +kernel
theorem dL_samples_3 : decode cL_samples 3 = .ok (.iload_n 1, 1) := by decide +kernel
theorem dL_samples_4 : decode cL_samples 4 = .ok (.invokevirtual 43, 3) := by decide +kernel
theorem dL_samples_7 : decode cL_samples 7 = .ok (.i2l, 1) := by decide +kernel
theorem dL_samples_8 : decode cL_samples 8 = .ok (.lastore, 1) := by decide +kernel
theorem dL_samples_9 : decode cL_samples 9 = .ok (.goto 6, 3) := by decide +kernel
theorem dL_samples_12 : decode cL_samples 12 = .ok (.astore_n 3, 1) := by decide +kernel
theorem dL_samples_13 : decode cL_samples 13 = .ok (.iconst 1, 1) := by decide +kernel
theorem dL_samples_14 : decode cL_samples 14 = .ok (.ireturn, 1) := by decide +kernel
theorem dL_samples_15 : decode cL_samples 15 = .ok (.iconst 0, 1) := by decide +kernel
theorem dL_samples_16 : decode cL_samples 16 = .ok (.ireturn, 1) := by decide +kernel
theorem dL_offset_0 : decode cL_offset 0 = .ok (.aload_n 2, 1) := by decide +kernel
theorem dL_offset_1 : decode cL_offset 1 = .ok (.iconst 0, 1) := by decide +kernel
theorem dL_offset_2 : decode cL_offset 2 = .ok (.aload_n 0, 1) := by decide +kernel
theorem dL_offset_3 : decode cL_offset 3 = .ok (.iload_n 1, 1) := by decide +kernel
theorem dL_offset_4 : decode cL_offset 4 = .ok (.invokevirtual 46, 3) := by decide +kernel
theorem dL_offset_7 : decode cL_offset 7 = .ok (.lastore, 1) := by decide +kernel
theorem dL_offset_8 : decode cL_offset 8 = .ok (.goto 9, 3) := by decide +kernel
theorem dL_offset_11 : decode cL_offset 11 = .ok (.astore_n 3, 1) := by decide +kernel
theorem dL_offset_12 : decode cL_offset 12 = .ok (.iconst 1, 1) := by decide +kernel
theorem dL_offset_13 : decode cL_offset 13 = .ok (.ireturn, 1) := by decide +kernel
theorem dL_offset_14 : decode cL_offset 14 = .ok (.astore_n 3, 1) := by decide +kernel
theorem dL_offset_15 : decode cL_offset 15 = .ok (.iconst 2, 1) := by decide +kernel
theorem dL_offset_16 : decode cL_offset 16 = .ok (.ireturn, 1) := by decide +kernel
theorem dL_offset_17 : decode cL_offset 17 = .ok (.iconst 0, 1) := by decide +kernel
theorem dL_offset_18 : decode cL_offset 18 = .ok (.ireturn, 1) := by decide +kernel
theorem dL_delay_0 : decode cL_delay 0 = .ok (.aload_n 2, 1) := by decide +kernel
theorem dL_delay_1 : decode cL_delay 1 = .ok (.iconst 0, 1) := by decide +kernel
theorem dL_delay_2 : decode cL_delay 2 = .ok (.aload_n 0, 1) := by decide +kernel
theorem dL_delay_3 : decode cL_delay 3 = .ok (.iload_n 1, 1) := by decide +kernel
theorem dL_delay_4 : decode cL_delay 4 = .ok (.invokevirtual 49, 3) := by decide +kernel
theorem dL_delay_7 : decode cL_delay 7 = .ok (.lastore, 1) := by decide +kernel
theorem dL_delay_8 : decode cL_delay 8 = .ok (.goto 9, 3) := by decide +kernel
theorem dL_delay_11 : decode cL_delay 11 = .ok (.astore_n 3, 1) := by decide +kernel
theorem dL_delay_12 : decode cL_delay 12 = .ok (.iconst 1, 1) := by decide +kernel
theorem dL_delay_13 : decode cL_delay 13 = .ok (.ireturn, 1) := by decide +kernel
theorem dL_delay_14 : decode cL_delay 14 = .ok (.astore_n 3, 1) := by decide +kernel
theorem dL_delay_15 : decode cL_delay 15 = .ok (.iconst 2, 1) := by decide +kernel
theorem dL_delay_16 : decode cL_delay 16 = .ok (.ireturn, 1) := by decide +kernel
theorem dL_delay_17 : decode cL_delay 17 = .ok (.iconst 0, 1) := by decide +kernel
theorem dL_delay_18 : decode cL_delay 18 = .ok (.ireturn, 1) := by decide +kernel
theorem dL_jitter_0 : decode cL_jitter 0 = .ok (.aload_n 2, 1) := by decide +kernel
theorem dL_jitter_1 : decode cL_jitter 1 = .ok (.iconst 0, 1) := by decide +kernel
theorem dL_jitter_2 : decode cL_jitter 2 = .ok (.aload_n 0, 1) := by decide +kernel
theorem dL_jitter_3 : decode cL_jitter 3 = .ok (.iload_n 1, 1) := by decide +kernel
theorem dL_jitter_4 : decode cL_jitter 4 = .ok (.invokevirtual 52, 3) := by decide +kernel
theorem dL_jitter_7 : decode cL_jitter 7 = .ok (.lastore, 1) := by decide +kernel
theorem dL_jitter_8 : decode cL_jitter 8 = .ok (.goto 9, 3) := by decide +kernel
theorem dL_jitter_11 : decode cL_jitter 11 = .ok (.astore_n 3, 1) := by decide +kernel
theorem dL_jitter_12 : decode cL_jitter 12 = .ok (.iconst 1, 1) := by decide +kernel
theorem dL_jitter_13 : decode cL_jitter 13 = .ok (.ireturn, 1) := by decide +kernel
theorem dL_jitter_14 : decode cL_jitter 14 = .ok (.astore_n 3, 1) := by decide +kernel
theorem dL_jitter_15 : decode cL_jitter 15 = .ok (.iconst 2, 1) := by decide +kernel
theorem dL_jitter_16 : decode cL_jitter 16 = .ok (.ireturn, 1) := by decide +kernel
theorem dL_jitter_17 : decode cL_jitter 17 = .ok (.iconst 0, 1) := by decide +kernel
theorem dL_jitter_18 : decode cL_jitter 18 = .ok (.ireturn, 1) := by decide +kernel
theorem dL_distance_0 : decode cL_distance 0 = .ok (.aload_n 2, 1) := by decide +kernel
theorem dL_distance_1 : decode cL_distance 1 = .ok (.iconst 0, 1) := by decide +kernel
theorem dL_distance_2 : decode cL_distance 2 = .ok (.aload_n 0, 1) := by decide +kernel
theorem dL_distance_3 : decode cL_distance 3 = .ok (.iload_n 1, 1) := by decide +kernel
theorem dL_distance_4 : decode cL_distance 4 = .ok (.invokevirtual 55, 3) := by decide +kernel
theorem dL_distance_7 : decode cL_distance 7 = .ok (.lastore, 1) := by decide +kernel
theorem dL_distance_8 : decode cL_distance 8 = .ok (.goto 9, 3) := by decide +kernel
theorem dL_distance_11 : decode cL_distance 11 = .ok (.astore_n 3, 1) := by decide +kernel
theorem dL_distance_12 : decode cL_distance 12 = .ok (.iconst 1, 1) := by decide +kernel
theorem dL_distance_13 : decode cL_distance 13 = .ok (.ireturn, 1) := by decide +kernel
theorem dL_distance_14 : decode cL_distance 14 = .ok (.astore_n 3, 1) := by decide +kernel
theorem dL_distance_15 : decode cL_distance 15 = .ok (.iconst 2, 1) := by decide +kernel
theorem dL_distance_16 : decode cL_distance 16 = .ok (.ireturn, 1) := by decide +kernel
theorem dL_distance_17 : decode cL_distance 17 = .ok (.iconst 0, 1) := by decide +kernel
theorem dL_distance_18 : decode cL_distance 18 = .ok (.ireturn, 1) := by decide +kernel
theorem dL_low_0 : decode cL_low 0 = .ok (.aload_n 1, 1) := by decide +kernel
theorem dL_low_1 : decode cL_low 1 = .ok (.iconst 0, 1) := by decide +kernel
theorem dL_low_2 : decode cL_low 2 = .ok (.aload_n 0, 1) := by decide +kernel
theorem dL_low_3 : decode cL_low 3 = .ok (.invokevirtual 58, 3) := by decide +kernel
theorem dL_low_6 : decode cL_low 6 = .ok (.lastore, 1) := by decide +kernel
theorem dL_low_7 : decode cL_low 7 = .ok (.goto 6, 3) := by decide +kernel
theorem dL_low_10 : decode cL_low 10 = .ok (.astore_n 2, 1) := by decide +kernel
theorem dL_low_11 : decode cL_low 11 = .ok (.iconst 1, 1) := by decide +kernel
theorem dL_low_12 : decode cL_low 12 = .ok (.ireturn, 1) := by decide +kernel
theorem dL_low_13 : decode cL_low 13 = .ok (.iconst 0, 1) := by decide +kernel
theorem dL_low_14 : decode cL_low 14 = .ok (.ireturn, 1) := by decide +kernel
theorem dL_high_0 : decode cL_high 0 = .ok (.aload_n 1, 1) := by decide +kernel
theorem dL_high_1 : decode cL_high 1 = .ok (.iconst 0, 1) := by decide +kernel
theorem dL_high_2 : decode cL_high 2 = .ok (.aload_n 0, 1) := by decide +kernel
theorem dL_high_3 : decode cL_high 3 = .ok (.invokevirtual 62, 3) := by decide +kernel
theorem dL_high_6 : decode cL_high 6 = .ok (.lastore, 1) := by decide +kernel
theorem dL_high_7 : decode cL_high 7 = .ok (.goto 6, 3) := by decide +kernel
theorem dL_high_10 : decode cL_high 10 = .ok (.astore_n 2, 1) := by decide +kernel
theorem dL_high_11 : decode cL_high 11 = .ok (.iconst 1, 1) := by decide +kernel
theorem dL_high_12 : decode cL_high 12 = .ok (.ireturn, 1) := by decide +kernel
theorem dL_high_13 : decode cL_high 13 = .ok (.iconst 0, 1) := by decide +kernel
theorem dL_high_14 : decode cL_high 14 = .ok (.ireturn, 1) := by decide +kernel
theorem dL_combinedOffset_0 : decode cL_combinedOffset 0 = .ok (.aload_n 1, 1) := by decide +kernel
theorem dL_combinedOffset_1 : decode cL_combinedOffset 1 = .ok (.iconst 0, 1) := by decide +kernel
theorem dL_combinedOffset_2 : decode cL_combinedOffset 2 = .ok (.aload_n 0, 1) := by decide +kernel
theorem dL_combinedOffset_3 : decode cL_combinedOffset 3 = .ok (.invokevirtual 65, 3) := by decide +kernel
theorem dL_combinedOffset_6 : decode cL_combinedOffset 6 = .ok (.lastore, 1) := by decide +kernel
theorem dL_combinedOffset_7 : decode cL_combinedOffset 7 = .ok (.goto 6, 3) := by decide +kernel
theorem dL_combinedOffset_10 : decode cL_combinedOffset 10 = .ok (.astore_n 2, 1) := by decide +kernel
theorem dL_combinedOffset_11 : decode cL_combinedOffset 11 = .ok (.iconst 1, 1) := by decide +kernel
theorem dL_combinedOffset_12 : decode cL_combinedOffset 12 = .ok (.ireturn, 1) := by decide +kernel
theorem dL_combinedOffset_13 : decode cL_combinedOffset 13 = .ok (.iconst 0, 1) := by decide +kernel
theorem dL_combinedOffset_14 : decode cL_combinedOffset 14 = .ok (.ireturn, 1) := by decide +kernel
theorem dL_synchronize_0 : decode cL_synchronize 0 = .ok (.aload_n 1, 1) := by decide +kernel
theorem dL_synchronize_1 : decode cL_synchronize 1 = .ok (.iconst 0, 1) := by decide +kernel
theorem dL_synchronize_2 : decode cL_synchronize 2 = .ok (.aload_n 0, 1) := by decide +kernel
theorem dL_synchronize_3 : decode cL_synchronize 3 = .ok (.invokevirtual 68, 3) := by decide +kernel
theorem dL_synchronize_6 : decode cL_synchronize 6 = .ok (.i2l, 1) := by decide +kernel
theorem dL_synchronize_7 : decode cL_synchronize 7 = .ok (.lastore, 1) := by decide +kernel
theorem dL_synchronize_8 : decode cL_synchronize 8 = .ok (.goto 6, 3) := by decide +kernel
theorem dL_synchronize_11 : decode cL_synchronize 11 = .ok (.astore_n 2, 1) := by decide +kernel
theorem dL_synchronize_12 : decode cL_synchronize 12 = .ok (.iconst 1, 1) := by decide +kernel
theorem dL_synchronize_13 : decode cL_synchronize 13 = .ok (.ireturn, 1) := by decide +kernel
theorem dL_synchronize_14 : decode cL_synchronize 14 = .ok (.iconst 0, 1) := by decide +kernel
theorem dL_synchronize_15 : decode cL_synchronize 15 = .ok (.ireturn, 1) := by decide +kernel
